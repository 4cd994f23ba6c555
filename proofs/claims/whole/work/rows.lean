section
-- ===== PART A: goes FIRST, ahead of the names: the tables' words, and 'selects' of the private methods out of them =====
/-- a private method of a class that the tables say can be made, by its rows of tables_1 -/
def lw_okq (q : MethodName × Nat) : Prop := (q.1.cls ≠ "java/lang/invoke/MethodHandle" ∧ q.1.cls ≠ "java/lang/invoke/VarHandle") ∧ Cond.instantiable q.1.cls q.2 ∈ tables_1 ∧ Cond.privateMethod q.1 ∈ tables_1 ∧ Cond.instanceMethod q.1 ∈ tables_1
theorem lw_p0 : lw_okq (⟨"Calibratory", "logRecalls", "(LCalibratory$Measurement;)Z"⟩, 9) := ⟨⟨by decide +kernel, by decide +kernel⟩, List.mem_of_getElem? (i := 14) (by decide +kernel), List.mem_of_getElem? (i := 76) (by decide +kernel), List.mem_of_getElem? (i := 77) (by decide +kernel)⟩
theorem lw_p1 : lw_okq (⟨"Calibratory", "knownOrNone", "(I)LCalibratory$Instrument;"⟩, 9) := ⟨⟨by decide +kernel, by decide +kernel⟩, List.mem_of_getElem? (i := 14) (by decide +kernel), List.mem_of_getElem? (i := 93) (by decide +kernel), List.mem_of_getElem? (i := 94) (by decide +kernel)⟩
theorem lw_p2 : lw_okq (⟨"Calibratory", "known", "(I)LCalibratory$Instrument;"⟩, 9) := ⟨⟨by decide +kernel, by decide +kernel⟩, List.mem_of_getElem? (i := 14) (by decide +kernel), List.mem_of_getElem? (i := 97) (by decide +kernel), List.mem_of_getElem? (i := 98) (by decide +kernel)⟩
theorem lw_p3 : lw_okq (⟨"java/lang/Throwable", "fillInStackTrace", "(I)Ljava/lang/Throwable;"⟩, 6) := ⟨⟨by decide +kernel, by decide +kernel⟩, List.mem_of_getElem? (i := 139) (by decide +kernel), List.mem_of_getElem? (i := 137) (by decide +kernel), List.mem_of_getElem? (i := 138) (by decide +kernel)⟩
theorem lw_p4 : lw_okq (⟨"Calibratory", "firstOutOfForce", "(LCalibratory$Instrument;)LCalibratory$Instrument;"⟩, 9) := ⟨⟨by decide +kernel, by decide +kernel⟩, List.mem_of_getElem? (i := 14) (by decide +kernel), List.mem_of_getElem? (i := 273) (by decide +kernel), List.mem_of_getElem? (i := 274) (by decide +kernel)⟩
theorem lw_p5 : lw_okq (⟨"Calibratory", "isInForce", "(LCalibratory$Instrument;)Z"⟩, 9) := ⟨⟨by decide +kernel, by decide +kernel⟩, List.mem_of_getElem? (i := 14) (by decide +kernel), List.mem_of_getElem? (i := 277) (by decide +kernel), List.mem_of_getElem? (i := 278) (by decide +kernel)⟩
theorem lw_p6 : lw_okq (⟨"Calibratory", "settle", "(LCalibratory$Instrument;LCalibratory$Calibration;LCalibratory$Calibration;I)I"⟩, 9) := ⟨⟨by decide +kernel, by decide +kernel⟩, List.mem_of_getElem? (i := 14) (by decide +kernel), List.mem_of_getElem? (i := 328) (by decide +kernel), List.mem_of_getElem? (i := 329) (by decide +kernel)⟩
theorem lw_p7 : lw_okq (⟨"Calibratory", "callBack", "(LCalibratory$Calibration;)I"⟩, 9) := ⟨⟨by decide +kernel, by decide +kernel⟩, List.mem_of_getElem? (i := 14) (by decide +kernel), List.mem_of_getElem? (i := 335) (by decide +kernel), List.mem_of_getElem? (i := 336) (by decide +kernel)⟩
theorem lw_p8 : lw_okq (⟨"Calibratory", "isAtStake", "(LCalibratory$Measurement;LCalibratory$Calibration;)Z"⟩, 9) := ⟨⟨by decide +kernel, by decide +kernel⟩, List.mem_of_getElem? (i := 14) (by decide +kernel), List.mem_of_getElem? (i := 339) (by decide +kernel), List.mem_of_getElem? (i := 340) (by decide +kernel)⟩
theorem lw_p9 : lw_okq (⟨"Calibratory", "countAtStake", "(LCalibratory$Calibration;)I"⟩, 9) := ⟨⟨by decide +kernel, by decide +kernel⟩, List.mem_of_getElem? (i := 14) (by decide +kernel), List.mem_of_getElem? (i := 491) (by decide +kernel), List.mem_of_getElem? (i := 492) (by decide +kernel)⟩
theorem lw_p10 : lw_okq (⟨"Calibratory", "countAhead", "(LCalibratory$Instrument;LCalibratory$Calibration;)I"⟩, 9) := ⟨⟨by decide +kernel, by decide +kernel⟩, List.mem_of_getElem? (i := 14) (by decide +kernel), List.mem_of_getElem? (i := 503) (by decide +kernel), List.mem_of_getElem? (i := 504) (by decide +kernel)⟩
theorem lw_p11 : lw_okq (⟨"CalibratoryModel", "isInstrument", "(I)Z"⟩, 22) := ⟨⟨by decide +kernel, by decide +kernel⟩, List.mem_of_getElem? (i := 514) (by decide +kernel), List.mem_of_getElem? (i := 597) (by decide +kernel), List.mem_of_getElem? (i := 598) (by decide +kernel)⟩
theorem lw_p12 : lw_okq (⟨"CalibratoryModel", "holds", "(I)Z"⟩, 22) := ⟨⟨by decide +kernel, by decide +kernel⟩, List.mem_of_getElem? (i := 514) (by decide +kernel), List.mem_of_getElem? (i := 601) (by decide +kernel), List.mem_of_getElem? (i := 602) (by decide +kernel)⟩
theorem lw_p13 : lw_okq (⟨"CalibratoryModel", "isInChain", "(II)Z"⟩, 22) := ⟨⟨by decide +kernel, by decide +kernel⟩, List.mem_of_getElem? (i := 514) (by decide +kernel), List.mem_of_getElem? (i := 609) (by decide +kernel), List.mem_of_getElem? (i := 610) (by decide +kernel)⟩
theorem lw_p14 : lw_okq (⟨"CalibratoryModel", "firstDistrusted", "(I)I"⟩, 22) := ⟨⟨by decide +kernel, by decide +kernel⟩, List.mem_of_getElem? (i := 514) (by decide +kernel), List.mem_of_getElem? (i := 634) (by decide +kernel), List.mem_of_getElem? (i := 635) (by decide +kernel)⟩
theorem lw_p15 : lw_okq (⟨"CalibratoryModel", "isInForce", "(I)Z"⟩, 22) := ⟨⟨by decide +kernel, by decide +kernel⟩, List.mem_of_getElem? (i := 514) (by decide +kernel), List.mem_of_getElem? (i := 638) (by decide +kernel), List.mem_of_getElem? (i := 639) (by decide +kernel)⟩
def lw_privs_1 : List (MethodName × Nat) := [(⟨"Calibratory", "logRecalls", "(LCalibratory$Measurement;)Z"⟩, 9), (⟨"Calibratory", "knownOrNone", "(I)LCalibratory$Instrument;"⟩, 9), (⟨"Calibratory", "known", "(I)LCalibratory$Instrument;"⟩, 9), (⟨"java/lang/Throwable", "fillInStackTrace", "(I)Ljava/lang/Throwable;"⟩, 6), (⟨"Calibratory", "firstOutOfForce", "(LCalibratory$Instrument;)LCalibratory$Instrument;"⟩, 9), (⟨"Calibratory", "isInForce", "(LCalibratory$Instrument;)Z"⟩, 9), (⟨"Calibratory", "settle", "(LCalibratory$Instrument;LCalibratory$Calibration;LCalibratory$Calibration;I)I"⟩, 9), (⟨"Calibratory", "callBack", "(LCalibratory$Calibration;)I"⟩, 9), (⟨"Calibratory", "isAtStake", "(LCalibratory$Measurement;LCalibratory$Calibration;)Z"⟩, 9), (⟨"Calibratory", "countAtStake", "(LCalibratory$Calibration;)I"⟩, 9), (⟨"Calibratory", "countAhead", "(LCalibratory$Instrument;LCalibratory$Calibration;)I"⟩, 9), (⟨"CalibratoryModel", "isInstrument", "(I)Z"⟩, 22), (⟨"CalibratoryModel", "holds", "(I)Z"⟩, 22), (⟨"CalibratoryModel", "isInChain", "(II)Z"⟩, 22), (⟨"CalibratoryModel", "firstDistrusted", "(I)I"⟩, 22), (⟨"CalibratoryModel", "isInForce", "(I)Z"⟩, 22)]
theorem lw_r1 : ∀ q ∈ lw_privs_1, lw_okq q := List.forall_mem_cons.mpr ⟨lw_p0, List.forall_mem_cons.mpr ⟨lw_p1, List.forall_mem_cons.mpr ⟨lw_p2, List.forall_mem_cons.mpr ⟨lw_p3, List.forall_mem_cons.mpr ⟨lw_p4, List.forall_mem_cons.mpr ⟨lw_p5, List.forall_mem_cons.mpr ⟨lw_p6, List.forall_mem_cons.mpr ⟨lw_p7, List.forall_mem_cons.mpr ⟨lw_p8, List.forall_mem_cons.mpr ⟨lw_p9, List.forall_mem_cons.mpr ⟨lw_p10, List.forall_mem_cons.mpr ⟨lw_p11, List.forall_mem_cons.mpr ⟨lw_p12, List.forall_mem_cons.mpr ⟨lw_p13, List.forall_mem_cons.mpr ⟨lw_p14, List.forall_mem_cons.mpr ⟨lw_p15, fun _ h => absurd h List.not_mem_nil⟩⟩⟩⟩⟩⟩⟩⟩⟩⟩⟩⟩⟩⟩⟩⟩
theorem lw_p16 : lw_okq (⟨"CalibratoryModel", "isCalibrated", "(I)Z"⟩, 22) := ⟨⟨by decide +kernel, by decide +kernel⟩, List.mem_of_getElem? (i := 514) (by decide +kernel), List.mem_of_getElem? (i := 642) (by decide +kernel), List.mem_of_getElem? (i := 643) (by decide +kernel)⟩
theorem lw_p17 : lw_okq (⟨"CalibratoryModel", "fails", "(I)I"⟩, 22) := ⟨⟨by decide +kernel, by decide +kernel⟩, List.mem_of_getElem? (i := 514) (by decide +kernel), List.mem_of_getElem? (i := 649) (by decide +kernel), List.mem_of_getElem? (i := 650) (by decide +kernel)⟩
theorem lw_p18 : lw_okq (⟨"CalibratoryModel", "reached", "(I)I"⟩, 22) := ⟨⟨by decide +kernel, by decide +kernel⟩, List.mem_of_getElem? (i := 514) (by decide +kernel), List.mem_of_getElem? (i := 653) (by decide +kernel), List.mem_of_getElem? (i := 654) (by decide +kernel)⟩
theorem lw_p19 : lw_okq (⟨"CalibratoryModel", "recalls", "(IZ)I"⟩, 22) := ⟨⟨by decide +kernel, by decide +kernel⟩, List.mem_of_getElem? (i := 514) (by decide +kernel), List.mem_of_getElem? (i := 657) (by decide +kernel), List.mem_of_getElem? (i := 658) (by decide +kernel)⟩
theorem lw_p20 : lw_okq (⟨"CalibratoryModel", "laysPoint", "(III)V"⟩, 22) := ⟨⟨by decide +kernel, by decide +kernel⟩, List.mem_of_getElem? (i := 514) (by decide +kernel), List.mem_of_getElem? (i := 661) (by decide +kernel), List.mem_of_getElem? (i := 662) (by decide +kernel)⟩
theorem lw_p21 : lw_okq (⟨"CalibratoryModel", "isAsked", "(I)Z"⟩, 22) := ⟨⟨by decide +kernel, by decide +kernel⟩, List.mem_of_getElem? (i := 514) (by decide +kernel), List.mem_of_getElem? (i := 673) (by decide +kernel), List.mem_of_getElem? (i := 674) (by decide +kernel)⟩
theorem lw_p22 : lw_okq (⟨"CalibratoryModel", "products", "(I)J"⟩, 22) := ⟨⟨by decide +kernel, by decide +kernel⟩, List.mem_of_getElem? (i := 514) (by decide +kernel), List.mem_of_getElem? (i := 701) (by decide +kernel), List.mem_of_getElem? (i := 702) (by decide +kernel)⟩
theorem lw_p23 : lw_okq (⟨"CalibratoryModel", "squares", "(I)J"⟩, 22) := ⟨⟨by decide +kernel, by decide +kernel⟩, List.mem_of_getElem? (i := 514) (by decide +kernel), List.mem_of_getElem? (i := 705) (by decide +kernel), List.mem_of_getElem? (i := 706) (by decide +kernel)⟩
theorem lw_p24 : lw_okq (⟨"CalibratoryModel", "errorAt", "(II)J"⟩, 22) := ⟨⟨by decide +kernel, by decide +kernel⟩, List.mem_of_getElem? (i := 514) (by decide +kernel), List.mem_of_getElem? (i := 713) (by decide +kernel), List.mem_of_getElem? (i := 714) (by decide +kernel)⟩
theorem lw_p25 : lw_okq (⟨"CalibratoryModel", "withChain", "(I)I"⟩, 22) := ⟨⟨by decide +kernel, by decide +kernel⟩, List.mem_of_getElem? (i := 514) (by decide +kernel), List.mem_of_getElem? (i := 725) (by decide +kernel), List.mem_of_getElem? (i := 726) (by decide +kernel)⟩
theorem lw_p26 : lw_okq (⟨"CalibratoryModel", "calledNow", "()I"⟩, 22) := ⟨⟨by decide +kernel, by decide +kernel⟩, List.mem_of_getElem? (i := 514) (by decide +kernel), List.mem_of_getElem? (i := 748) (by decide +kernel), List.mem_of_getElem? (i := 749) (by decide +kernel)⟩
theorem lw_p27 : lw_okq (⟨"CalibratoryModel", "dayOnBench", "(II)I"⟩, 22) := ⟨⟨by decide +kernel, by decide +kernel⟩, List.mem_of_getElem? (i := 514) (by decide +kernel), List.mem_of_getElem? (i := 767) (by decide +kernel), List.mem_of_getElem? (i := 768) (by decide +kernel)⟩
def lw_privs_2 : List (MethodName × Nat) := [(⟨"CalibratoryModel", "isCalibrated", "(I)Z"⟩, 22), (⟨"CalibratoryModel", "fails", "(I)I"⟩, 22), (⟨"CalibratoryModel", "reached", "(I)I"⟩, 22), (⟨"CalibratoryModel", "recalls", "(IZ)I"⟩, 22), (⟨"CalibratoryModel", "laysPoint", "(III)V"⟩, 22), (⟨"CalibratoryModel", "isAsked", "(I)Z"⟩, 22), (⟨"CalibratoryModel", "products", "(I)J"⟩, 22), (⟨"CalibratoryModel", "squares", "(I)J"⟩, 22), (⟨"CalibratoryModel", "errorAt", "(II)J"⟩, 22), (⟨"CalibratoryModel", "withChain", "(I)I"⟩, 22), (⟨"CalibratoryModel", "calledNow", "()I"⟩, 22), (⟨"CalibratoryModel", "dayOnBench", "(II)I"⟩, 22)]
theorem lw_r2 : ∀ q ∈ lw_privs_2, lw_okq q := List.forall_mem_cons.mpr ⟨lw_p16, List.forall_mem_cons.mpr ⟨lw_p17, List.forall_mem_cons.mpr ⟨lw_p18, List.forall_mem_cons.mpr ⟨lw_p19, List.forall_mem_cons.mpr ⟨lw_p20, List.forall_mem_cons.mpr ⟨lw_p21, List.forall_mem_cons.mpr ⟨lw_p22, List.forall_mem_cons.mpr ⟨lw_p23, List.forall_mem_cons.mpr ⟨lw_p24, List.forall_mem_cons.mpr ⟨lw_p25, List.forall_mem_cons.mpr ⟨lw_p26, List.forall_mem_cons.mpr ⟨lw_p27, fun _ h => absurd h List.not_mem_nil⟩⟩⟩⟩⟩⟩⟩⟩⟩⟩⟩⟩
def lw_privs : List (MethodName × Nat) := lw_privs_1 ++ (lw_privs_2)
def lw_tbl : List Cond := k2_sels lw_privs ++ tables_1
theorem lw_privs_ok : ∀ q ∈ lw_privs, lw_okq q := by
  show ∀ q ∈ lw_privs_1 ++ (lw_privs_2), lw_okq q
  exact List.forall_mem_append.mpr ⟨lw_r1, lw_r2⟩
/-- the streams that the claim lets the run draw from -/
abbrev lw_cs : List Choice := [Jvm.Choice.named "NaN.bits"]
theorem lw_bits : nanBits ∈ lw_cs := by first | decide | exact List.mem_cons_self | simp [lw_cs, nanBits]
-- ===== end of PART A; then your names; then what follows =====
/-! ===== BEGIN words of one list among another's, by their places ===== -/
theorem goodIn_r {big : List Cond} (ws : List Cond) (ps : List Nat) (hp : ws = ps.filterMap (fun i => big[i]?)) (h : ws.all goodWord = true) : GoodIn big ws := by
  intro w hw
  have h1 := List.all_eq_true.mp h w hw
  rw [hp] at hw
  obtain ⟨i, -, hi⟩ := List.mem_filterMap.mp hw
  have hm : w ∈ big := by first | exact List.mem_of_getElem? hi | exact List.getElem?_mem hi
  exact ⟨hm, good_of_word h1⟩
theorem goodIn_app {big a b : List Cond} (ha : GoodIn big a) (hb : GoodIn big b) : GoodIn big (a ++ b) := fun w h => (List.mem_append.mp h).elim (ha w) (hb w)
theorem goodIn_ca {big a b : List Cond} {c : Cond} (ha : GoodIn big (c :: a)) (hb : GoodIn big b) : GoodIn big (c :: (a ++ b)) := fun w h => (List.mem_cons.mp h).elim (fun e => ha w (List.mem_cons.mpr (Or.inl e))) (fun h => (List.mem_append.mp h).elim (fun h => ha w (List.mem_cons.mpr (Or.inr h))) (hb w))
theorem goodIn_sub {big ws : List Cond} (hm : ∀ w ∈ ws, w ∈ big) (h : ws.all goodWord = true) : GoodIn big ws := fun w hw => ⟨hm w hw, good_of_word (List.all_eq_true.mp h w hw)⟩
/-! ===== END ===== -/

/-! ===== BEGIN exceptions that leave a method, and their catching by the caller (launches without stack traces) ===== -/
section VXA
/-! The laws vx_back, vx_callV, vx_callS, vx_callSW, vx_throw0, vx_throwS follow proofs of the library, with one case more: JvmDerived/Free/Laws.lean (Back.of_free), Shelf42/LK1.lean (callV, callS), Shelf/KitTraced.lean (throwNew0V, throwNewS). -/
/-- where a method has thrown q: the class by its name, the cell, what was written, the world -/
def vx_T (XC : String → State → State → Prop) (st : State) (q : Addr) (t : State) (mc ms : Nat) (free : Addr → Prop) : Prop :=
  ∃ (E : String) (ce : Cell) (L : List Loc), XC E st t ∧ t.heap[q]? = some ce ∧ ce.vm = .none ∧ st.vm.findClass E = some ce.cls ∧ st.WarmedH t.vm ∧ st.sameButNew ({ t with vm := st.vm } : State) L mc ms ∧ ∀ z ∈ L, free z.base
def vx_Q (Qc : Array Value → State → Outcome → State → Prop) (XC : String → State → State → Prop) (mc ms : Nat) (free : Addr → Prop) : Array Value → State → Outcome → State → Prop := fun a st o t =>
  (Qc a st o t ∧ ∃ L, FrameEnd st o t L mc ms ∧ ∀ q ∈ L, free q.base) ∨ ∃ q, o = .threw q ∧ vx_T XC st q t mc ms free
/-- a callee that returns or throws -/
def vx_Met (l : Launch) (y : MethodName) (ws : List Cond) (rm : Room) (Pc : Array Value → State → Prop) (Qc : Array Value → State → Outcome → State → Prop) (XC : String → State → State → Prop) (mc ms : Nat) (free : Addr → Prop) : Prop :=
  MetFree l y (headSpec ws rm) Pc (fun _ _ _ _ _ => True) (vx_Q Qc XC mc ms free)
def vx_Post (XC : String → State → State → Prop) (mc ms : Nat) (free : Addr → Prop) : Pt → Array Value → Addr → Pt → Prop := fun A a q B =>
  ∃ (g : JFrame) (mk : MethodId) (t : State) (L : List Loc) (E : String) (ce : Cell), B.U.heap = t.heap ∧ B.U.vm = t.vm ∧ XC E (A.U.calling g mk a) t ∧ t.heap[q]? = some ce ∧ ce.vm = .none ∧ A.U.vm.findClass E = some ce.cls ∧ B.locs = A.locs ++ L ∧ (∀ z ∈ L, free z.base) ∧ B.cells = A.cells + mc ∧ B.slots = A.slots + ms
def vx_Back (l : Launch) (R : Room) (p : Program) (e : Env) (below : List Frame) (s : State) (sargs : Array Value) (y : MethodName) (len W9 : Nat)
    (Pre : Pt → Array Value → Prop) (Post : Pt → Array Value → Option Value → Pt → Prop) (PostX : Pt → Array Value → Addr → Pt → Prop) : Prop :=
  ∀ (m : MethodId) (meth : Method) (c : Code) (A : Pt) (g : JFrame) (ig : Instr) (mk : MethodId) (a : Array Value),
    Stand p l e R s m sargs below meth c A.U A.locs A.cells A.slots → g.method = m → g.locals.size = c.maxLocals → decode c.code g.pc = .ok (ig, len) →
    2 * g.monitorRoom + (g.stack.map fun v => v.category).sum ≤ W9 → A.U.methodNamed? y = some mk → Pre A a →
    (∃ (v : Option Value) (B : Pt), Stand p l e R s m sargs below meth c B.U B.locs B.cells B.slots ∧ Post A a v B ∧
      Steps p.tables e below (doInvoke e (A.U.setTop g) [] mk a).1 (B.U.setTop { g with pc := g.pc + len, stack := v.toList ++ g.stack })) ∨
    (∃ (q : Addr) (B : Pt), Stand p l e R s m sargs below meth c B.U B.locs B.cells B.slots ∧ PostX A a q B ∧
      Steps p.tables e below (doInvoke e (A.U.setTop g) [] mk a).1 ((B.U.setTop g).pushFrame (.throwing q)))
section Payer
variable {l : Launch} {R : Room} {p : Program} {e : Env} {below : List Frame} {s : State} {sargs : Array Value} {y : MethodName} {len W9 : Nat}
theorem vx_back {ws : List Cond} {rm : Room} {Pc : Array Value → State → Prop} {Qc : Array Value → State → Outcome → State → Prop} {XC : String → State → State → Prop} {mc ms : Nat} {free : Addr → Prop} {bytes : ByteArray} {maxL : Nat} {ret : Option FieldType}
    (hM : vx_Met l y ws rm Pc Qc XC mc ms free) (hblind : FrameBlind Pc) (hrc : rm.cells = mc) (hrs : rm.slots = ms)
    (hframes : rm.frames + 1 ≤ R.frames) (hlocals : W9 + (maxL + 11) + rm.locals ≤ R.locals)
    (hws : ∀ w ∈ ws, ∀ a' U, s.WarmedH U.vm → w.before a' U = true) (hcode : Cond.code y bytes maxL ret ∈ ws) (hinit : ∀ a' U, s.WarmedH U.vm → (Cond.initialized y.cls).before a' U = true) :
    vx_Back l R p e below s sargs y len W9 (PreOf R mc ms Pc) (PostOf Qc mc ms free) (vx_Post XC mc ms free) := by
  intro m meth c A g ig mk a X hg hsize hdg hW hn hp
  have h1 : (headSpec ws rm).pre.before a A.U = true := atoms_intro fun w hw => hws w hw _ _ X.warmed
  have h2 : (Cond.code y bytes maxL ret).before a A.U = true := hws _ hcode _ _ X.warmed
  have h3 : (Cond.initialized y.cls).before a A.U = true := hinit _ _ X.warmed
  have h4 : A.cells + (headSpec ws rm).room.cells ≤ R.cells := by rw [show (headSpec ws rm).room.cells = mc from hrc]; exact hp.1
  have h5 : A.slots + (headSpec ws rm).room.slots ≤ R.slots := by rw [show (headSpec ws rm).room.slots = ms from hrs]; exact hp.2.1
  have hPc : Pc a (A.U.calling g mk a) := hblind _ _ _ _ hp.2.2
  obtain ⟨U, Ls, c0, s0⟩ := A
  dsimp only [Pt.U, Pt.locs, Pt.cells, Pt.slots] at h1 h2 h3 h4 h5 X hn hPc ⊢
  obtain ⟨methY, cY, hmY, hcY, -, hlY, -, -, -, -⟩ := Cond.code_spec hn h2
  obtain ⟨kY, hkY, -⟩ := className_of_methodNamed hn
  have hinitY : kY.init = .initialized := Cond.initialized_spec (findClass_of_methodNamed hn) hkY h3
  have h : At U g.method c below := by rw [hg]; exact X.here
  have hlocals9 : W9 + (maxL + 11) + (headSpec ws rm).room.locals ≤ R.locals := hlocals
  have happ : (headSpec ws rm).appliesLoose y e.platform (U.calling g mk a) = true :=
    Spec.appliesLoose_calling (g := g) h hdg hn hkY hinitY
      (X.room_calling (g := g) (R' := (headSpec ws rm).room) hsize hmY hcY hframes (by rw [hlY]; omega) h4 h5) h1
  obtain ⟨mid, hmid⟩ := h.above
  have hfr : (U.setTop g).frames = (.java g :: mid) ++ below := by rw [State.frames_setTop' g h.top, hmid]; rfl
  obtain ⟨o, s₂, hsteps, -, hend, hq⟩ := Steps.callFree hM p X.admits X.cas X.clock (acts := []) hfr happ hPc trivial
  have hq' : vx_Q Qc XC mc ms free a (U.calling g mk a) o s₂ := hq
  rw [State.frames_setTop' g h.top] at hend
  obtain ⟨g₀, hg0⟩ := Option.isSome_iff_exists.mp h.top
  obtain ⟨r, hr⟩ := State.topJava?_eq_some.mp hg0
  have hr' : (({ U with heap := s₂.heap, slotsUsed := s₂.slotsUsed } : State).setVm s₂.vm).frames = .java g₀ :: r := hr
  rcases hq' with ⟨hqc, L, hfe, hL⟩ | ⟨q, rfl, E, ce, L, hx, hce, hcv, hcl, hW₂, hsm, hL⟩
  · obtain ⟨⟨v, rfl⟩, hW₂, e2, q2, q3, q4, q5, q6⟩ := id hfe
    have e3 : s₂ = ({ (U.calling g mk a).setFrames s₂.frames with heap := s₂.heap, slotsUsed := s₂.slotsUsed } : State).setVm s₂.vm := by
      have : s₂ = ({ s₂ with vm := (U.calling g mk a).vm } : State).setVm s₂.vm := rfl
      rw [e2] at this
      exact this
    obtain ⟨c₂, i₂, len₂, hc₂, hd₂, hf₂⟩ := hend
    have hW' : U.WarmedH s₂.vm := hW₂
    have hcc : c₂ = c := by
      have h1 : s₂.code? g.method = U.code? g.method := by
        rw [State.code?_eq, State.code?_eq, hW'.alike.method?]
      exact Option.some.inj (hc₂.symm.trans (h1.trans h.code))
    subst hcc
    have hlen : len₂ = len := by rw [hdg] at hd₂; cases hd₂; rfl
    subst hlen
    have hs₂ : s₂ = (({ U with heap := s₂.heap, slotsUsed := s₂.slotsUsed } : State).setVm s₂.vm).setTop { g with pc := g.pc + len₂, stack := v.toList ++ g.stack } := by
      refine e3.trans ?_
      rw [hf₂, State.calling_eq h.top, State.setFrames_setFrames, State.setTop_of_frames _ hr', hr]
      rfl
    have hsame : U.sameButNew ({ U with heap := s₂.heap, slotsUsed := s₂.slotsUsed } : State) L mc ms := by
      refine ⟨?_, q2, q3, q4, q5, q6⟩
      obtain ⟨t, ht, -⟩ := State.frames_cons hr
      show ({ U with heap := s₂.heap, slotsUsed := s₂.slotsUsed } : State) = { U.setFrames U.frames with heap := s₂.heap, slotsUsed := s₂.slotsUsed }
      rw [State.setFrames_self ht]
    subst hg
    refine Or.inl ⟨v, ⟨(({ U with heap := s₂.heap, slotsUsed := s₂.slotsUsed } : State).setVm s₂.vm), Ls ++ L, c0 + mc, s0 + ms⟩,
      ⟨X.admits, X.cas, X.clock, X.frames, X.room, X.hears, X.method, X.code, (X.here.setHeapUsed s₂.heap s₂.slotsUsed).setVm hW'.alike, X.tail, State.WarmedH.trans X.warmed hW', X.limits, X.bytes, X.same.trans (hsame.setVm s.vm)⟩,
      ⟨g, mk, s₂, L, rfl, rfl, hqc, rfl, hL, rfl, rfl⟩, ?_⟩
    show Steps p.tables e below _ ((({ U with heap := s₂.heap, slotsUsed := s₂.slotsUsed } : State).setVm s₂.vm).setTop { g with pc := g.pc + len₂, stack := v.toList ++ g.stack })
    rw [← hs₂]
    exact hsteps
  · obtain ⟨e2, q2, q3, q4, q5, q6⟩ := id hsm
    have e3 : s₂ = ({ (U.calling g mk a).setFrames s₂.frames with heap := s₂.heap, slotsUsed := s₂.slotsUsed } : State).setVm s₂.vm := by
      have : s₂ = ({ s₂ with vm := (U.calling g mk a).vm } : State).setVm s₂.vm := rfl
      rw [e2] at this
      exact this
    have hf₂ : s₂.frames = .throwing q :: .java g :: U.frames.tail := hend
    have hW' : U.WarmedH s₂.vm := hW₂
    have hs₂ : s₂ = ((({ U with heap := s₂.heap, slotsUsed := s₂.slotsUsed } : State).setVm s₂.vm).setTop g).pushFrame (.throwing q) := by
      refine e3.trans ?_
      rw [hf₂, State.calling_eq h.top, State.setFrames_setFrames, State.pushFrame, State.frames_setTop _ hr', State.setTop_of_frames _ hr', State.setFrames_setFrames, hr]
      rfl
    have hsame : U.sameButNew ({ U with heap := s₂.heap, slotsUsed := s₂.slotsUsed } : State) L mc ms := by
      refine ⟨?_, q2, q3, q4, q5, q6⟩
      obtain ⟨t, ht, -⟩ := State.frames_cons hr
      show ({ U with heap := s₂.heap, slotsUsed := s₂.slotsUsed } : State) = { U.setFrames U.frames with heap := s₂.heap, slotsUsed := s₂.slotsUsed }
      rw [State.setFrames_self ht]
    subst hg
    refine Or.inr ⟨q, ⟨(({ U with heap := s₂.heap, slotsUsed := s₂.slotsUsed } : State).setVm s₂.vm), Ls ++ L, c0 + mc, s0 + ms⟩,
      ⟨X.admits, X.cas, X.clock, X.frames, X.room, X.hears, X.method, X.code, (X.here.setHeapUsed s₂.heap s₂.slotsUsed).setVm hW'.alike, X.tail, State.WarmedH.trans X.warmed hW', X.limits, X.bytes, X.same.trans (hsame.setVm s.vm)⟩,
      ⟨g, mk, s₂, L, E, ce, rfl, rfl, hx, hce, hcv, hcl, rfl, hL, rfl, rfl⟩, ?_⟩
    show Steps p.tables e below _ (((({ U with heap := s₂.heap, slotsUsed := s₂.slotsUsed } : State).setVm s₂.vm).setTop g).pushFrame (.throwing q))
    rw [← hs₂]
    exact hsteps
end Payer
section Calls
variable {p : Program} {l : Launch} {e : Env} {R : Room} {s : State} {m : MethodId} {args : Array Value} {below : List Frame} {meth : Method} {c : Code} {T : State} {locs : List Loc} {cells slots : Nat}
theorem vx_callV (X : Stand p l e R s m args below meth c T locs cells slots) (hexec : p.tables.exec = Jvm.exec) {own C : String} {index : Nat} {y : MethodName} {bytes : ByteArray} {maxL : Nat} {ret : Option FieldType}
    (hown : s.vm.findClass own = some m.cls) (hlink : (Cond.methodLink own index y).before args s = true) (hinst : (Cond.instanceMethod y).before args s = true) (hsel : (Cond.selects C y y).before args s = true)
    (hcode : (Cond.code y bytes maxL ret).before args s = true) (hy : y.cls ≠ "java/lang/invoke/MethodHandle" ∧ y.cls ≠ "java/lang/invoke/VarHandle")
    {W9 : Nat} {Pre : Pt → Array Value → Prop} {Post : Pt → Array Value → Option Value → Pt → Prop} {PostX : Pt → Array Value → Addr → Pt → Prop} (hK : vx_Back l R p e below s args y 3 W9 Pre Post PostX)
    {b : Addr} {cellB : Cell} (hcell : T.heap[b]? = some cellB) (hobj : cellB.vm.isStatics = false) (hcls : s.vm.findClass C = some cellB.cls)
    {g : JFrame} (hg : g.method = m) (hsize : g.locals.size = c.maxLocals) {argsL rest : List Value} (hlen : ∀ sig, parseMethodDescriptor y.desc = some sig → argsL.length = sig.parameters.length)
    (hstack : g.stack = argsL.reverse ++ .ref b :: rest) (hW : 2 * g.monitorRoom + (rest.map fun v => v.category).sum ≤ W9) (hdg : decode c.code g.pc = .ok (.invokevirtual index, 3))
    (hpre : ∀ vm₁, s.WarmedH vm₁ → Pre ⟨T.setVm vm₁, locs, cells, slots⟩ (Value.ref b :: argsL).toArray) :
    (∃ (v : Option Value) (vm₁ : Vm) (B : Pt), s.WarmedH vm₁ ∧ Stand p l e R s m args below meth c B.U B.locs B.cells B.slots ∧ Post ⟨T.setVm vm₁, locs, cells, slots⟩ (Value.ref b :: argsL).toArray v B ∧
      ∀ target, Steps p.tables e below (B.U.setTop { g with pc := g.pc + 3, stack := v.toList ++ rest }) target → Steps p.tables e below (T.setTop g) target) ∨
    (∃ (q : Addr) (vm₁ : Vm) (B : Pt), s.WarmedH vm₁ ∧ Stand p l e R s m args below meth c B.U B.locs B.cells B.slots ∧ PostX ⟨T.setVm vm₁, locs, cells, slots⟩ (Value.ref b :: argsL).toArray q B ∧
      Steps p.tables e below (T.setTop g) ((B.U.setTop { g with stack := rest }).pushFrame (.throwing q))) := by
  obtain ⟨mk, methM, hnamed, hmethM, hstM, habM⟩ := Cond.instanceMethod_spec hinst
  obtain ⟨methM', cM, hmethM', -, -, -, -, -, -, hsigM⟩ := Cond.code_spec hnamed hcode
  cases hmethM.symm.trans hmethM'
  obtain ⟨c2, r2, m2, q1, q2, q3, q4, kP, hkP, hkPi⟩ := Cond.selects_spec hsel
  cases hcls.symm.trans q1
  cases (State.methodFound?_of_named hnamed hy).symm.trans q2
  cases hnamed.symm.trans q3
  have hselP : selectMethod e.platform s.vm cellB.cls mk = .method mk := by rw [Launch.admits_selectMethod X.admits]; exact q4
  obtain ⟨vm₁, X₁, hstep₁⟩ := X.invokevirtual hexec hown hlink hnamed hmethM hstM hkP hkPi hy (a := b) (cell := cellB) hcell
    (fun z h => by rw [h] at hobj; cases hobj) hselP hmethM habM hkP hkPi (g := g) hg (argsL := argsL) (rest := rest) (hlen _ hsigM) hstack hdg
  rcases hK m meth c ⟨T.setVm vm₁, locs, cells, slots⟩ { g with stack := rest } (.invokevirtual index) mk (Value.ref b :: argsL).toArray X₁ hg hsize hdg hW (X₁.named hnamed) (hpre vm₁ X₁.warmed) with ⟨v, B, X', hpost, hsteps⟩ | ⟨q, B, X', hpost, hsteps⟩
  · exact Or.inl ⟨v, vm₁, B, X₁.warmed, X', hpost, fun target h => hstep₁ _ fun acts => by rw [doInvoke_state]; exact hsteps.trans h⟩
  · exact Or.inr ⟨q, vm₁, B, X₁.warmed, X', hpost, hstep₁ _ fun acts => by rw [doInvoke_state]; exact hsteps⟩
theorem vx_callS (X : Stand p l e R s m args below meth c T locs cells slots) (hexec : p.tables.exec = Jvm.exec) {own : String} {index : Nat} {y : MethodName} {bytes : ByteArray} {maxL : Nat} {ret : Option FieldType}
    (hown : s.vm.findClass own = some m.cls) (hlink : (Cond.methodLink own index y).before args s = true) (hstat : (Cond.static y).before args s = true) (hinit : (Cond.initialized y.cls).before args s = true)
    (hcode : (Cond.code y bytes maxL ret).before args s = true) (hy : y.cls ≠ "java/lang/invoke/MethodHandle" ∧ y.cls ≠ "java/lang/invoke/VarHandle")
    {W9 : Nat} {Pre : Pt → Array Value → Prop} {Post : Pt → Array Value → Option Value → Pt → Prop} {PostX : Pt → Array Value → Addr → Pt → Prop} (hK : vx_Back l R p e below s args y 3 W9 Pre Post PostX)
    {g : JFrame} (hg : g.method = m) (hsize : g.locals.size = c.maxLocals) {argsL rest : List Value} (hlen : ∀ sig, parseMethodDescriptor y.desc = some sig → argsL.length = sig.parameters.length)
    (hstack : g.stack = argsL.reverse ++ rest) (hW : 2 * g.monitorRoom + (rest.map fun v => v.category).sum ≤ W9) (hdg : decode c.code g.pc = .ok (.invokestatic index, 3))
    (hpre : ∀ vm₁, s.WarmedH vm₁ → Pre ⟨T.setVm vm₁, locs, cells, slots⟩ argsL.toArray) :
    (∃ (v : Option Value) (vm₁ : Vm) (B : Pt), s.WarmedH vm₁ ∧ Stand p l e R s m args below meth c B.U B.locs B.cells B.slots ∧ Post ⟨T.setVm vm₁, locs, cells, slots⟩ argsL.toArray v B ∧
      ∀ target, Steps p.tables e below (B.U.setTop { g with pc := g.pc + 3, stack := v.toList ++ rest }) target → Steps p.tables e below (T.setTop g) target) ∨
    (∃ (q : Addr) (vm₁ : Vm) (B : Pt), s.WarmedH vm₁ ∧ Stand p l e R s m args below meth c B.U B.locs B.cells B.slots ∧ PostX ⟨T.setVm vm₁, locs, cells, slots⟩ argsL.toArray q B ∧
      Steps p.tables e below (T.setTop g) ((B.U.setTop { g with stack := rest }).pushFrame (.throwing q))) := by
  obtain ⟨mk, hnamed⟩ := Cond.code_named hcode
  obtain ⟨methM, cM, hmethM, -, -, -, -, -, -, hsigM⟩ := Cond.code_spec hnamed hcode
  have hstatic : methM.isStatic = true := Cond.static_spec hnamed hmethM hstat
  obtain ⟨kP, hkP, -⟩ := className_of_methodNamed hnamed
  have hinitP : kP.init = .initialized := Cond.initialized_spec (findClass_of_methodNamed hnamed) hkP hinit
  obtain ⟨vm₁, X₁, hstep₁⟩ := X.invokestatic hexec hown hlink hnamed hmethM hstatic hkP hinitP hy (g := g) hg (argsL := argsL) (rest := rest) (hlen _ hsigM) hstack hdg
  rcases hK m meth c ⟨T.setVm vm₁, locs, cells, slots⟩ { g with stack := rest } (.invokestatic index) mk argsL.toArray X₁ hg hsize hdg hW (X₁.named hnamed) (hpre vm₁ X₁.warmed) with ⟨v, B, X', hpost, hsteps⟩ | ⟨q, B, X', hpost, hsteps⟩
  · exact Or.inl ⟨v, vm₁, B, X₁.warmed, X', hpost, fun target h => hstep₁ _ fun acts => by rw [doInvoke_state]; exact hsteps.trans h⟩
  · exact Or.inr ⟨q, vm₁, B, X₁.warmed, X', hpost, hstep₁ _ fun acts => by rw [doInvoke_state]; exact hsteps⟩
end Calls
theorem vx_cls {s : State} {T : State} {vm₁ : Vm} {E : String} {k : ClassId} (hW : s.WarmedH vm₁) (h : (T.setVm vm₁).vm.findClass E = some k) : s.vm.findClass E = some k := by
  have h1 : vm₁.findClass E = some k := h
  rw [hW.alike.findClass] at h1
  exact h1
/-- the method's frame g, with q thrown over it -/
def vx_W (p : Program) (l : Launch) (e : Env) (R : Room) (s : State) (m : MethodId) (args : Array Value) (below : List Frame) (meth : Method) (c : Code) (H : Heap) (locs : List Loc) (cells slots : Nat) (Q : State → Prop) (g : JFrame) (q : Addr) : Prop :=
  ∀ T : State, T.heap = H → Stand p l e R s m args below meth c T locs cells slots → ∃ t, Steps p.tables e below ((T.setTop g).pushFrame (.throwing q)) t ∧ Q t
def vx_Run (p : Program) (l : Launch) (e : Env) (R : Room) (s : State) (m : MethodId) (args : Array Value) (below : List Frame) (meth : Method) (c : Code) (H : Heap) (locs : List Loc) (cells slots mc ms : Nat) (g : JFrame) (rest : List Value) (Qa : State → Outcome → State → Prop) (XC : String → State → State → Prop) (free : Addr → Prop) : Prop :=
  ∀ T : State, T.heap = H → Stand p l e R s m args below meth c T locs cells slots →
    (∃ (v : Option Value) (st₀ t T' : State) (L : List Loc), st₀.heap = H ∧ Stand p l e R s m args below meth c T' (locs ++ L) (cells + mc) (slots + ms) ∧ (∀ q ∈ L, free q.base) ∧ T'.heap = t.heap ∧ T'.vm = t.vm ∧ Qa st₀ (.returned v) t ∧
      Goes p e below T g T' { g with pc := g.pc + 3, stack := v.toList ++ rest }) ∨
    (∃ (q : Addr) (st₀ t T' : State) (L : List Loc) (E : String) (ce : Cell), st₀.heap = H ∧ Stand p l e R s m args below meth c T' (locs ++ L) (cells + mc) (slots + ms) ∧ (∀ z ∈ L, free z.base) ∧ T'.heap = t.heap ∧ T'.vm = t.vm ∧ XC E st₀ t ∧ t.heap[q]? = some ce ∧ ce.vm = .none ∧ s.vm.findClass E = some ce.cls ∧
      Steps p.tables e below (T.setTop g) ((T'.setTop { g with stack := rest }).pushFrame (.throwing q)))
def vx_X {S : Type} (px : S → Prop) (B : String → S → State → Prop) (A : Nat → Prop) : String → State → State → Prop := fun E st t => ∃ u : S, px u ∧ B E u t ∧ va_F A st t
section Runs
variable {p : Program} {l : Launch} {e : Env} {R : Room} {s : State} {m : MethodId} {args : Array Value} {below : List Frame} {meth : Method} {c : Code} {H : Heap} {locs : List Loc} {cells slots : Nat}
variable {y : MethodName} {bytes cc : ByteArray} {maxL nL mc ms n index : Nat} {ret : Option FieldType} {ws : List Cond} {rm : Room} {Pc : Array Value → State → Prop} {Qc : Array Value → State → Outcome → State → Prop} {XC : String → State → State → Prop} {free : Addr → Prop} {Ts : List Cond} {own C : String} {b : Addr} {As rest : List Value} {g : JFrame}
theorem vx_callBack (cb : CallB R s args own index y bytes maxL ret ws rm mc ms n) (hM : vx_Met l y ws rm Pc Qc XC mc ms free) (hbl : FrameBlind Pc) : vx_Back l R p e below s args y 3 8 (PreOf R mc ms Pc) (PostOf Qc mc ms free) (vx_Post XC mc ms free) := by
  obtain ⟨hrc, hrs, hfr, hlo, hws, hcw, -, hini, -⟩ := cb
  exact vx_back (bytes := bytes) (maxL := maxL) (ret := ret) hM hbl hrc hrs hfr hlo hws hcw (fun a' U hW => word_at hW (Or.inl (by first | rfl | simp [Cond.onTables, Cond.keeps, Cond.steady])) hini)
theorem vx_runV (S : CallFix p m c cc nL s args Ts own) (hM : vx_Met l y ws rm Pc Qc XC mc ms free) (cw : CallW R s args own C index y bytes maxL ret ws rm mc ms n) (hp : PreV s H C b Pc As)
    (hg : g.method = m) (hn : As.length = n) (hsize : g.locals.size = nL) (hstack : g.stack = As.reverse ++ .ref b :: rest) (hW : 2 * g.monitorRoom + (rest.map fun v => v.category).sum ≤ 8) (hdg : decode cc g.pc = .ok (.invokevirtual index, 3)) (hf : cells + mc ≤ R.cells ∧ slots + ms ≤ R.slots) :
    vx_Run p l e R s m args below meth c H locs cells slots mc ms g rest (Qc (Value.ref b :: As).toArray) XC free := by
  have hK : vx_Back l R p e below s args y 3 8 (PreOf R mc ms Pc) (PostOf Qc mc ms free) (vx_Post XC mc ms free) := vx_callBack cw.1 hM hp.1
  obtain ⟨⟨-, -, -, -, -, -, hcode, -, hy, hlen, hl⟩, hin, hse⟩ := cw
  obtain ⟨hx, hb, hml, ho, -⟩ := S
  obtain ⟨-, ⟨cellB, hcB, hoB, hclB⟩, hPc⟩ := hp
  intro T hT X
  rcases vx_callV X hx (C := C) (bytes := bytes) (maxL := maxL) (ret := ret) ho hl hin hse hcode hy hK (by rw [hT]; exact hcB) hoB hclB hg (hsize.trans hml.symm) (argsL := As) (rest := rest) (fun sig h => hn.trans (hlen sig h)) hstack hW (by rw [hb]; exact hdg)
    (fun vm₁ hW₁ => ⟨hf.1, hf.2, hPc (T.setVm vm₁) hT hW₁⟩) with ⟨v, vm₁, ⟨U', l2, c2, s2⟩, hW₁, X', ⟨g', mk, t, L, e1, e2, hq, h1, hL, h2, h3⟩, st⟩ | ⟨q, vm₁, ⟨U', l2, c2, s2⟩, hW₁, X', ⟨g', mk, t, L, E, ce, e1, e2, hq, hce, hcv, hcl, h1, hL, h2, h3⟩, st⟩
  · dsimp only [Pt.U, Pt.locs, Pt.cells, Pt.slots] at X' e1 e2 h1 h2 h3 st
    subst h1; subst h2; subst h3
    exact Or.inl ⟨v, (T.setVm vm₁).calling g' mk (Value.ref b :: As).toArray, t, U', L, hT, X', hL, e1, e2, hq, st⟩
  · dsimp only [Pt.U, Pt.locs, Pt.cells, Pt.slots] at X' e1 e2 h1 h2 h3 st hcl
    subst h1; subst h2; subst h3
    exact Or.inr ⟨q, (T.setVm vm₁).calling g' mk (Value.ref b :: As).toArray, t, U', L, E, ce, hT, X', hL, e1, e2, hq, hce, hcv, vx_cls hW₁ hcl, st⟩
theorem vx_runS (S : CallFix p m c cc nL s args Ts own) (hM : vx_Met l y ws rm Pc Qc XC mc ms free) (cw : CallB R s args own index y bytes maxL ret ws rm mc ms n ∧ (Cond.static y).before args s = true) (hp : PreS s H Pc As)
    (hg : g.method = m) (hn : As.length = n) (hsize : g.locals.size = nL) (hstack : g.stack = As.reverse ++ rest) (hW : 2 * g.monitorRoom + (rest.map fun v => v.category).sum ≤ 8) (hdg : decode cc g.pc = .ok (.invokestatic index, 3)) (hf : cells + mc ≤ R.cells ∧ slots + ms ≤ R.slots) :
    vx_Run p l e R s m args below meth c H locs cells slots mc ms g rest (Qc As.toArray) XC free := by
  have hK : vx_Back l R p e below s args y 3 8 (PreOf R mc ms Pc) (PostOf Qc mc ms free) (vx_Post XC mc ms free) := vx_callBack cw.1 hM hp.1
  obtain ⟨⟨-, -, -, -, -, -, hcode, hini, hy, hlen, hl⟩, hstt⟩ := cw
  obtain ⟨hx, hb, hml, ho, -⟩ := S
  intro T hT X
  rcases vx_callS X hx (bytes := bytes) (maxL := maxL) (ret := ret) ho hl hstt hini hcode hy hK hg (hsize.trans hml.symm) (argsL := As) (rest := rest) (fun sig h => hn.trans (hlen sig h)) hstack hW (by rw [hb]; exact hdg)
    (fun vm₁ hW₁ => ⟨hf.1, hf.2, hp.2 (T.setVm vm₁) hT hW₁⟩) with ⟨v, vm₁, ⟨U', l2, c2, s2⟩, hW₁, X', ⟨g', mk, t, L, e1, e2, hq, h1, hL, h2, h3⟩, st⟩ | ⟨q, vm₁, ⟨U', l2, c2, s2⟩, hW₁, X', ⟨g', mk, t, L, E, ce, e1, e2, hq, hce, hcv, hcl, h1, hL, h2, h3⟩, st⟩
  · dsimp only [Pt.U, Pt.locs, Pt.cells, Pt.slots] at X' e1 e2 h1 h2 h3 st
    subst h1; subst h2; subst h3
    exact Or.inl ⟨v, (T.setVm vm₁).calling g' mk As.toArray, t, U', L, hT, X', hL, e1, e2, hq, st⟩
  · dsimp only [Pt.U, Pt.locs, Pt.cells, Pt.slots] at X' e1 e2 h1 h2 h3 st hcl
    subst h1; subst h2; subst h3
    exact Or.inr ⟨q, (T.setVm vm₁).calling g' mk As.toArray, t, U', L, E, ce, hT, X', hL, e1, e2, hq, hce, hcv, vx_cls hW₁ hcl, st⟩
end Runs
section Rows
variable {p : Program} {l : Launch} {e : Env} {R : Room} {s : State} {m : MethodId} {args : Array Value} {below : List Frame} {meth : Method} {c : Code} {H : Heap} {locs : List Loc} {cells slots : Nat} {Q : State → Prop}
variable {mc ms : Nat} {free : Addr → Prop} {A0 A1 : Nat → Prop} {H0 : Heap} {a : Array Value} {pc : Nat} {ls : Array Slot} {st0 rest : List Value}
theorem vx_keep {st₀ t T' : State} {L : List Loc} (h0 : st₀.heap = H) (e1 : T'.heap = t.heap) (hS : va_S A0 H0 H locs) (hA : ∀ q, q < H.size → A1 q → A0 q) (hf : ∀ q, free q → A0 q) (hL : ∀ q ∈ L, free q.base) (hF : va_F A1 st₀ t) :
    H.size ≤ T'.heap.size ∧ (∀ q : Nat, q < H.size → ¬ A1 q → T'.heap[q]? = H[q]?) ∧ va_S A0 H0 T'.heap (locs ++ L) := by
  obtain ⟨hz, hk⟩ := hF
  rw [h0] at hz hk
  exact ⟨by rw [e1]; exact hz, fun q h1 h2 => by rw [e1]; exact hk q h1 h2,
    ⟨Nat.le_trans hS.1 (by rw [e1]; exact hz), fun q h1 h2 => by rw [e1, hk q (Nat.lt_of_lt_of_le h1 hS.1) (fun z => h2 (hA q (Nat.lt_of_lt_of_le h1 hS.1) z))]; exact hS.2.1 q h1 h2, fun q hq => by
      rcases List.mem_append.mp hq with h | h
      · exact hS.2.2 q h
      · exact hf _ (hL q h)⟩⟩
theorem vx_calli {S SX : Type} {post : Int32 → S → Prop} {px : SX → Prop} {B : S → State → Prop} {BX : String → SX → State → Prop} {AX : Nat → Prop} (hr : vx_Run p l e R s m args below meth c H locs cells slots mc ms (F0 m pc ls st0) rest (va_Qi post B A1 a) (vx_X px BX AX) free) (hS : va_S A0 H0 H locs) (hA : ∀ q, q < H.size → A1 q → A0 q) (hf : ∀ q, free q → A0 q) (hAX : ∀ q, q < H.size → AX q → A0 q)
    (kx : ∀ (E : String) (ce : Cell) (q9 : Addr) (u : SX) (t : State) (H1 : Heap) (locs1 : List Loc), t.heap = H1 → s.vm.Alike t.vm → px u → BX E u t → H.size ≤ H1.size → (∀ q : Nat, q < H.size → ¬ AX q → H1[q]? = H[q]?) → va_S A0 H0 H1 locs1 → H1[q9]? = some ce → ce.vm = .none → s.vm.findClass E = some ce.cls → vx_W p l e R s m args below meth c H1 locs1 (cells + mc) (slots + ms) Q (F0 m pc ls rest) q9)
    (kk : ∀ (r : Int32) (u : S) (t : State) (H1 : Heap) (locs1 : List Loc), t.heap = H1 → s.vm.Alike t.vm → post r u → B u t → H.size ≤ H1.size → (∀ q : Nat, q < H.size → ¬ A1 q → H1[q]? = H[q]?) → va_S A0 H0 H1 locs1 → W p l e R s m args below meth c H1 locs1 (cells + mc) (slots + ms) Q (F0 m (pc + 3) ls (.int r :: rest))) : W p l e R s m args below meth c H locs cells slots Q (F0 m pc ls st0) := by
  intro T hT X
  rcases hr T hT X with ⟨v, st₀, t, T', L, h0, X', hL, e1, e2, ⟨⟨r, u, hv, hp, hb⟩, hF⟩, st⟩ | ⟨q, st₀, t, T', L, E, ce, h0, X', hL, e1, e2, ⟨u, hp, hb, hF⟩, hce, hcv, hcl, st⟩
  · cases hv
    obtain ⟨k1, k2, k3⟩ := vx_keep h0 e1 hS hA hf hL hF
    obtain ⟨t2, a1, b1⟩ := kk r u t T'.heap (locs ++ L) e1.symm (by rw [← e2]; exact X'.warmed.alike) hp hb k1 k2 k3 T' rfl X'
    exact ⟨t2, st t2 a1, b1⟩
  · obtain ⟨k1, k2, k3⟩ := vx_keep h0 e1 hS hAX hf hL hF
    obtain ⟨t2, a1, b1⟩ := kx E ce q u t T'.heap (locs ++ L) e1.symm (by rw [← e2]; exact X'.warmed.alike) hp hb k1 k2 k3 (by rw [e1]; exact hce) hcv hcl T' rfl X'
    exact ⟨t2, st.trans a1, b1⟩
theorem vx_calll {S SX : Type} {post : Int64 → S → Prop} {px : SX → Prop} {B : S → State → Prop} {BX : String → SX → State → Prop} {AX : Nat → Prop} (hr : vx_Run p l e R s m args below meth c H locs cells slots mc ms (F0 m pc ls st0) rest (va_Ql post B A1 a) (vx_X px BX AX) free) (hS : va_S A0 H0 H locs) (hA : ∀ q, q < H.size → A1 q → A0 q) (hf : ∀ q, free q → A0 q) (hAX : ∀ q, q < H.size → AX q → A0 q)
    (kx : ∀ (E : String) (ce : Cell) (q9 : Addr) (u : SX) (t : State) (H1 : Heap) (locs1 : List Loc), t.heap = H1 → s.vm.Alike t.vm → px u → BX E u t → H.size ≤ H1.size → (∀ q : Nat, q < H.size → ¬ AX q → H1[q]? = H[q]?) → va_S A0 H0 H1 locs1 → H1[q9]? = some ce → ce.vm = .none → s.vm.findClass E = some ce.cls → vx_W p l e R s m args below meth c H1 locs1 (cells + mc) (slots + ms) Q (F0 m pc ls rest) q9)
    (kk : ∀ (r : Int64) (u : S) (t : State) (H1 : Heap) (locs1 : List Loc), t.heap = H1 → s.vm.Alike t.vm → post r u → B u t → H.size ≤ H1.size → (∀ q : Nat, q < H.size → ¬ A1 q → H1[q]? = H[q]?) → va_S A0 H0 H1 locs1 → W p l e R s m args below meth c H1 locs1 (cells + mc) (slots + ms) Q (F0 m (pc + 3) ls (.long r :: rest))) : W p l e R s m args below meth c H locs cells slots Q (F0 m pc ls st0) := by
  intro T hT X
  rcases hr T hT X with ⟨v, st₀, t, T', L, h0, X', hL, e1, e2, ⟨⟨r, u, hv, hp, hb⟩, hF⟩, st⟩ | ⟨q, st₀, t, T', L, E, ce, h0, X', hL, e1, e2, ⟨u, hp, hb, hF⟩, hce, hcv, hcl, st⟩
  · cases hv
    obtain ⟨k1, k2, k3⟩ := vx_keep h0 e1 hS hA hf hL hF
    obtain ⟨t2, a1, b1⟩ := kk r u t T'.heap (locs ++ L) e1.symm (by rw [← e2]; exact X'.warmed.alike) hp hb k1 k2 k3 T' rfl X'
    exact ⟨t2, st t2 a1, b1⟩
  · obtain ⟨k1, k2, k3⟩ := vx_keep h0 e1 hS hAX hf hL hF
    obtain ⟨t2, a1, b1⟩ := kx E ce q u t T'.heap (locs ++ L) e1.symm (by rw [← e2]; exact X'.warmed.alike) hp hb k1 k2 k3 (by rw [e1]; exact hce) hcv hcl T' rfl X'
    exact ⟨t2, st.trans a1, b1⟩
theorem vx_callf {S SX : Type} {post : UInt32 → S → Prop} {px : SX → Prop} {B : S → State → Prop} {BX : String → SX → State → Prop} {AX : Nat → Prop} (hr : vx_Run p l e R s m args below meth c H locs cells slots mc ms (F0 m pc ls st0) rest (va_Qf post B A1 a) (vx_X px BX AX) free) (hS : va_S A0 H0 H locs) (hA : ∀ q, q < H.size → A1 q → A0 q) (hf : ∀ q, free q → A0 q) (hAX : ∀ q, q < H.size → AX q → A0 q)
    (kx : ∀ (E : String) (ce : Cell) (q9 : Addr) (u : SX) (t : State) (H1 : Heap) (locs1 : List Loc), t.heap = H1 → s.vm.Alike t.vm → px u → BX E u t → H.size ≤ H1.size → (∀ q : Nat, q < H.size → ¬ AX q → H1[q]? = H[q]?) → va_S A0 H0 H1 locs1 → H1[q9]? = some ce → ce.vm = .none → s.vm.findClass E = some ce.cls → vx_W p l e R s m args below meth c H1 locs1 (cells + mc) (slots + ms) Q (F0 m pc ls rest) q9)
    (kk : ∀ (r : UInt32) (u : S) (t : State) (H1 : Heap) (locs1 : List Loc), t.heap = H1 → s.vm.Alike t.vm → post r u → B u t → H.size ≤ H1.size → (∀ q : Nat, q < H.size → ¬ A1 q → H1[q]? = H[q]?) → va_S A0 H0 H1 locs1 → W p l e R s m args below meth c H1 locs1 (cells + mc) (slots + ms) Q (F0 m (pc + 3) ls (.float r :: rest))) : W p l e R s m args below meth c H locs cells slots Q (F0 m pc ls st0) := by
  intro T hT X
  rcases hr T hT X with ⟨v, st₀, t, T', L, h0, X', hL, e1, e2, ⟨⟨r, u, hv, hp, hb⟩, hF⟩, st⟩ | ⟨q, st₀, t, T', L, E, ce, h0, X', hL, e1, e2, ⟨u, hp, hb, hF⟩, hce, hcv, hcl, st⟩
  · cases hv
    obtain ⟨k1, k2, k3⟩ := vx_keep h0 e1 hS hA hf hL hF
    obtain ⟨t2, a1, b1⟩ := kk r u t T'.heap (locs ++ L) e1.symm (by rw [← e2]; exact X'.warmed.alike) hp hb k1 k2 k3 T' rfl X'
    exact ⟨t2, st t2 a1, b1⟩
  · obtain ⟨k1, k2, k3⟩ := vx_keep h0 e1 hS hAX hf hL hF
    obtain ⟨t2, a1, b1⟩ := kx E ce q u t T'.heap (locs ++ L) e1.symm (by rw [← e2]; exact X'.warmed.alike) hp hb k1 k2 k3 (by rw [e1]; exact hce) hcv hcl T' rfl X'
    exact ⟨t2, st.trans a1, b1⟩
theorem vx_calld {S SX : Type} {post : UInt64 → S → Prop} {px : SX → Prop} {B : S → State → Prop} {BX : String → SX → State → Prop} {AX : Nat → Prop} (hr : vx_Run p l e R s m args below meth c H locs cells slots mc ms (F0 m pc ls st0) rest (va_Qd post B A1 a) (vx_X px BX AX) free) (hS : va_S A0 H0 H locs) (hA : ∀ q, q < H.size → A1 q → A0 q) (hf : ∀ q, free q → A0 q) (hAX : ∀ q, q < H.size → AX q → A0 q)
    (kx : ∀ (E : String) (ce : Cell) (q9 : Addr) (u : SX) (t : State) (H1 : Heap) (locs1 : List Loc), t.heap = H1 → s.vm.Alike t.vm → px u → BX E u t → H.size ≤ H1.size → (∀ q : Nat, q < H.size → ¬ AX q → H1[q]? = H[q]?) → va_S A0 H0 H1 locs1 → H1[q9]? = some ce → ce.vm = .none → s.vm.findClass E = some ce.cls → vx_W p l e R s m args below meth c H1 locs1 (cells + mc) (slots + ms) Q (F0 m pc ls rest) q9)
    (kk : ∀ (r : UInt64) (u : S) (t : State) (H1 : Heap) (locs1 : List Loc), t.heap = H1 → s.vm.Alike t.vm → post r u → B u t → H.size ≤ H1.size → (∀ q : Nat, q < H.size → ¬ A1 q → H1[q]? = H[q]?) → va_S A0 H0 H1 locs1 → W p l e R s m args below meth c H1 locs1 (cells + mc) (slots + ms) Q (F0 m (pc + 3) ls (.double r :: rest))) : W p l e R s m args below meth c H locs cells slots Q (F0 m pc ls st0) := by
  intro T hT X
  rcases hr T hT X with ⟨v, st₀, t, T', L, h0, X', hL, e1, e2, ⟨⟨r, u, hv, hp, hb⟩, hF⟩, st⟩ | ⟨q, st₀, t, T', L, E, ce, h0, X', hL, e1, e2, ⟨u, hp, hb, hF⟩, hce, hcv, hcl, st⟩
  · cases hv
    obtain ⟨k1, k2, k3⟩ := vx_keep h0 e1 hS hA hf hL hF
    obtain ⟨t2, a1, b1⟩ := kk r u t T'.heap (locs ++ L) e1.symm (by rw [← e2]; exact X'.warmed.alike) hp hb k1 k2 k3 T' rfl X'
    exact ⟨t2, st t2 a1, b1⟩
  · obtain ⟨k1, k2, k3⟩ := vx_keep h0 e1 hS hAX hf hL hF
    obtain ⟨t2, a1, b1⟩ := kx E ce q u t T'.heap (locs ++ L) e1.symm (by rw [← e2]; exact X'.warmed.alike) hp hb k1 k2 k3 (by rw [e1]; exact hce) hcv hcl T' rfl X'
    exact ⟨t2, st.trans a1, b1⟩
theorem vx_callv {S SX : Type} {post : S → Prop} {px : SX → Prop} {B : S → State → Prop} {BX : String → SX → State → Prop} {AX : Nat → Prop} (hr : vx_Run p l e R s m args below meth c H locs cells slots mc ms (F0 m pc ls st0) rest (va_Qv post B A1 a) (vx_X px BX AX) free) (hS : va_S A0 H0 H locs) (hA : ∀ q, q < H.size → A1 q → A0 q) (hf : ∀ q, free q → A0 q) (hAX : ∀ q, q < H.size → AX q → A0 q)
    (kx : ∀ (E : String) (ce : Cell) (q9 : Addr) (u : SX) (t : State) (H1 : Heap) (locs1 : List Loc), t.heap = H1 → s.vm.Alike t.vm → px u → BX E u t → H.size ≤ H1.size → (∀ q : Nat, q < H.size → ¬ AX q → H1[q]? = H[q]?) → va_S A0 H0 H1 locs1 → H1[q9]? = some ce → ce.vm = .none → s.vm.findClass E = some ce.cls → vx_W p l e R s m args below meth c H1 locs1 (cells + mc) (slots + ms) Q (F0 m pc ls rest) q9)
    (kk : ∀ (u : S) (t : State) (H1 : Heap) (locs1 : List Loc), t.heap = H1 → s.vm.Alike t.vm → post u → B u t → H.size ≤ H1.size → (∀ q : Nat, q < H.size → ¬ A1 q → H1[q]? = H[q]?) → va_S A0 H0 H1 locs1 → W p l e R s m args below meth c H1 locs1 (cells + mc) (slots + ms) Q (F0 m (pc + 3) ls (rest))) : W p l e R s m args below meth c H locs cells slots Q (F0 m pc ls st0) := by
  intro T hT X
  rcases hr T hT X with ⟨v, st₀, t, T', L, h0, X', hL, e1, e2, ⟨⟨u, hv, hp, hb⟩, hF⟩, st⟩ | ⟨q, st₀, t, T', L, E, ce, h0, X', hL, e1, e2, ⟨u, hp, hb, hF⟩, hce, hcv, hcl, st⟩
  · cases hv
    obtain ⟨k1, k2, k3⟩ := vx_keep h0 e1 hS hA hf hL hF
    obtain ⟨t2, a1, b1⟩ := kk u t T'.heap (locs ++ L) e1.symm (by rw [← e2]; exact X'.warmed.alike) hp hb k1 k2 k3 T' rfl X'
    exact ⟨t2, st t2 a1, b1⟩
  · obtain ⟨k1, k2, k3⟩ := vx_keep h0 e1 hS hAX hf hL hF
    obtain ⟨t2, a1, b1⟩ := kx E ce q u t T'.heap (locs ++ L) e1.symm (by rw [← e2]; exact X'.warmed.alike) hp hb k1 k2 k3 (by rw [e1]; exact hce) hcv hcl T' rfl X'
    exact ⟨t2, st.trans a1, b1⟩
/-- caught by the row x of this method's table; the rows ahead don't take it -/
theorem vx_catch {own name : String} {E : String} {ce : Cell} {q : Addr} (hown : s.vm.findClass own = some m.cls) (pre : List ExceptionTableEntry) (x : ExceptionTableEntry) (suf : List ExceptionTableEntry) (hsplit : c.exceptionTable.toList = pre ++ x :: suf)
    (hpass : ∀ z ∈ pre, covers z pc = false ∨ (z.catchType ≠ 0 ∧ ∃ nm : String, (Cond.classLink own z.catchType nm).before args s = true ∧ va_Nc E nm s)) (hx : covers x pc = true) (h0 : x.catchType ≠ 0)
    (hlink : (Cond.classLink own x.catchType name).before args s = true) (hcast : (Cond.castable E name).before args s = true) (hcell : H[q]? = some ce) (hv : ce.vm = .none) (hcl : s.vm.findClass E = some ce.cls)
    (kk : W p l e R s m args below meth c H locs cells slots Q (F0 m x.handlerPc ls [.ref q])) : vx_W p l e R s m args below meth c H locs cells slots Q (F0 m pc ls rest) q := by
  intro T hT X
  have hpl : e.platform.magicAccessors = ({} : Platform).magicAccessors := by rw [X.admits.platform]
  obtain ⟨c3, c4, hc3, hc4, hasg⟩ := Cond.castable_spec hcast
  cases Option.some.inj (hc3.symm.trans hcl)
  obtain ⟨c5, hc5, hcl5⟩ := Cond.classLink_spec hown hlink e.platform hpl
  cases Option.some.inj (hc4.symm.trans hc5)
  obtain ⟨vm', X', st⟩ := X.thenCaughtThrough q (g := F0 m pc ls rest) rfl (Steps.refl _) (by rw [hT]; exact hcell) (by rw [hv]; rfl) (by obtain ⟨k9, h9, -⟩ := Vm.findClass_spec hcl; exact ⟨k9, h9⟩) pre x suf hsplit
    (fun z hz => by
      rcases hpass z hz with h | ⟨hz0, nm, hl1, hn1⟩
      · exact Or.inl h
      · obtain ⟨c6, hc6, hcl6⟩ := Cond.classLink_spec hown hl1 e.platform hpl
        obtain ⟨a8, b8, h1, h2, h3⟩ := hn1
        cases Option.some.inj (h1.symm.trans hcl)
        cases Option.some.inj (h2.symm.trans hc6)
        exact Or.inr ⟨hz0, _, hcl6, h3⟩) hx (Or.inr ⟨h0, c4, hcl5, hasg⟩)
  obtain ⟨t, a1, b1⟩ := kk (T.setVm vm') hT X'
  exact ⟨t, st.trans a1, b1⟩
end Rows
section Ends
variable {p : Program} {l : Launch} {e : Env} {R : Room} {s : State} {m : MethodId} {args : Array Value} {below : List Frame} {meth : Method} {c : Code} {H : Heap} {locs : List Loc} {cells slots : Nat} {Q : State → Prop}
variable {mc ms : Nat} {free : Addr → Prop} {A0 A1 : Nat → Prop} {H0 : Heap} {a : Array Value} {ls : Array Slot} {st0 rest : List Value}
variable {Qc : Array Value → State → Outcome → State → Prop} {XC : String → State → State → Prop}
/-- what a body that may throw owes at its end -/
def vx_MQ (below : List Frame) (Qc : Array Value → State → Outcome → State → Prop) (XC : String → State → State → Prop) (a : Array Value) (s : State) (mc ms : Nat) (free : Addr → Prop) : State → Prop := fun t =>
  ∃ o, t.status = .running ∧ Ended t below o ∧ vx_Q Qc XC mc ms free a s o t
theorem vx_ret {g : JFrame} {mc ms : Nat} (k : W p l e R s m args below meth c H locs cells slots (MQ below Qc args s mc ms free) g) : W p l e R s m args below meth c H locs cells slots (vx_MQ below Qc XC args s mc ms free) g := by
  intro T hT X
  obtain ⟨t, a1, o, b1, b2, b3, b4⟩ := k T hT X
  exact ⟨t, a1, o, b1, b2, Or.inl ⟨b3, b4⟩⟩
/-- not caught here: it goes on to the caller -/
theorem vx_widen {g : JFrame} {q : Addr} {k n : Nat} (h1 : cells ≤ k) (h2 : slots ≤ n) (kk : vx_W p l e R s m args below meth c H locs k n Q g q) : vx_W p l e R s m args below meth c H locs cells slots Q g q := fun T hT X => kk T hT (stand_widen X h1 h2)
theorem vx_out {pc : Nat} {E : String} {ce : Cell} {q : Addr} {mc ms : Nat} (hout : ∀ x ∈ c.exceptionTable.toList, covers x pc = false) (hlocks : meth.locks = false) (hcell : H[q]? = some ce) (hv : ce.vm = .none) (hcl : s.vm.findClass E = some ce.cls)
    (hx : ∀ t : State, t.heap = H → s.vm.Alike t.vm → XC E s t) (hf : ∀ z ∈ locs, free z.base) (hc : cells ≤ mc) (hs : slots ≤ ms) :
    vx_W p l e R s m args below meth c H locs cells slots (vx_MQ below Qc XC args s mc ms free) (F0 m pc ls rest) q := by
  intro T hT X
  obtain ⟨st1, hrun, hend, hW, hsm⟩ := X.leaveThrown q (g := F0 m pc ls rest) rfl rfl rfl hout hlocks
  have hcell9 : (T.setFrames (.throwing q :: below)).heap[q]? = some ce := by
    show T.heap[q]? = some ce
    rw [hT]; exact hcell
  exact ⟨_, st1, .threw q, hrun, hend, Or.inr ⟨q, rfl, E, ce, locs, hx _ hT hW.alike, hcell9, hv, hcl, hW, hsm.mono hc hs, hf⟩⟩
theorem vx_frame {U : State} {k n : Nat} (h : s.sameButNew ({ U with vm := s.vm } : State) locs k n) : s.heap.size ≤ U.heap.size ∧ ∀ q : Nat, q < s.heap.size → (∀ z ∈ locs, z.base ≠ q) → U.heap[q]? = s.heap[q]? := by
  obtain ⟨-, h2, -, -, -, h6⟩ := h
  refine ⟨h2, fun q hq hz => ?_⟩
  obtain ⟨c9, e1, e2, e3, e4⟩ := h6 q _ (Array.getElem?_eq_getElem hq)
  have hs : c9.slots = (s.heap[q]).slots := Array.ext_getElem? fun i => e4 i fun hm => hz _ hm rfl
  have h9 : c9 = s.heap[q] := by
    rw [hs] at e2
    exact e2
  have e5 : U.heap[q]? = some c9 := e1
  rw [e5, h9, Array.getElem?_eq_getElem hq]
/-- the words of a throw but the four that speak of the heap -/
def vx_no (w : Cond) : Bool := decide (w ≠ .isRef (.static Bundle.tN "UNASSIGNED_STACK" Bundle.steD)) && decide (w ≠ .isRef (.static Bundle.tN "SUPPRESSED_SENTINEL" Bundle.listD)) && decide (w ≠ .laysStatic Bundle.tN "UNASSIGNED_STACK" Bundle.steD) && decide (w ≠ .laysStatic Bundle.tN "SUPPRESSED_SENTINEL" Bundle.listD)
def vx_at0 (own : String) (ic : Nat) (X : String) (names : List String) : List Cond := (Bundle.ownAtoms0 own ic X names).filter vx_no
def vx_atS (own : String) (ic : Nat) (X : String) (names : List String) : List Cond := (Bundle.ownAtoms own ic X names).filter vx_no
/-- a word that the tables alone decide, or a good one -/
def vx_ot (w : Cond) : Bool := w.onTables || goodWord w
theorem vx_ot_at {args a' : Array Value} {s U : State} {w : Cond} (hW : s.WarmedH U.vm) (hvm : s.vm = U.vm) (hg : vx_ot w = true) (h : w.before args s = true) : w.before a' U = true := by
  simp only [vx_ot, Bool.or_eq_true] at hg
  rcases hg with hg | hg
  · exact va_tabs hg hvm h
  · exact word_at hW (good_of_word hg) h
/-- a list's words: the good ones out of the method's own list, the others by premises of their own -/
theorem vx_hat {args : Array Value} {s : State} {L B : List Cond} (h1 : ∀ w ∈ L.filter goodWord, w.before args s = true) (h2 : ∀ w ∈ L.filter (fun w => !goodWord w), w ∈ B) (h3 : ∀ w ∈ B, w.before args s = true) : ∀ w ∈ L, w.before args s = true := by
  intro w hw
  by_cases g : goodWord w = true
  · exact h1 w (List.mem_filter.mpr ⟨hw, g⟩)
  · refine h3 w (h2 w (List.mem_filter.mpr ⟨hw, ?_⟩))
    show (!goodWord w) = true
    cases hgw : goodWord w
    · rfl
    · exact absurd hgw g
theorem vx_c {args : Array Value} {s : State} {w : Cond} {B : List Cond} (h : w.before args s = true) (t : ∀ w ∈ B, w.before args s = true) : ∀ w' ∈ w :: B, w'.before args s = true := fun w' h' => (List.mem_cons.mp h').elim (fun e => by rw [e]; exact h) (t w')
theorem vx_n {args : Array Value} {s : State} : ∀ w ∈ ([] : List Cond), w.before args s = true := fun _ h => nomatch h
theorem vx_own {args : Array Value} {s : State} {L : List Cond} (h1 : ∀ w ∈ L.filter vx_no, w.before args s = true)
    (hU : (Cond.isRef (.static Bundle.tN "UNASSIGNED_STACK" Bundle.steD)).before args s = true) (hN : (Cond.isRef (.static Bundle.tN "SUPPRESSED_SENTINEL" Bundle.listD)).before args s = true)
    (lU : (Cond.laysStatic Bundle.tN "UNASSIGNED_STACK" Bundle.steD).before args s = true) (lN : (Cond.laysStatic Bundle.tN "SUPPRESSED_SENTINEL" Bundle.listD).before args s = true) : ∀ w ∈ L, w.before args s = true := by
  intro w hw
  by_cases e1 : w = .isRef (.static Bundle.tN "UNASSIGNED_STACK" Bundle.steD)
  · rw [e1]; exact hU
  · by_cases e2 : w = .isRef (.static Bundle.tN "SUPPRESSED_SENTINEL" Bundle.listD)
    · rw [e2]; exact hN
    · by_cases e3 : w = .laysStatic Bundle.tN "UNASSIGNED_STACK" Bundle.steD
      · rw [e3]; exact lU
      · by_cases e4 : w = .laysStatic Bundle.tN "SUPPRESSED_SENTINEL" Bundle.listD
        · rw [e4]; exact lN
        · exact h1 w (List.mem_filter.mpr ⟨hw, by unfold vx_no; rw [decide_eq_true e1, decide_eq_true e2, decide_eq_true e3, decide_eq_true e4]; rfl⟩)
/-- where a static field lies, its class's statics cell in H -/
def vx_L (C n d : String) (A : Nat → Prop) (U : State) (H : Heap) : Prop := ∃ (c : ClassId) (k : Class) (i : Nat) (f : Field) (a : Nat) (cell : Cell), U.vm.findClass C = some c ∧ U.fieldFound? C n d = some (c, k, i, f) ∧ f.isStatic = true ∧ k.statics = some a ∧ H[a]? = some cell ∧ cell.vm.isStatics = true ∧ cell.cls = c ∧ f.slot < cell.slots.size ∧ k.staticTypes[f.slot]? = some f.type ∧ ¬ A a
theorem vx_L.moved {C n d : String} {A : Nat → Prop} {u U : State} {H : Heap} (hvm : u.vm.Alike U.vm) (h : vx_L C n d A u H) : vx_L C n d A U H := by
  obtain ⟨c, k, i, f, a, cell, h1, h2, h3, h4, h5, h6, h7, h8, h9, h10⟩ := h
  obtain ⟨k', hi', he⟩ := State.fieldFound?_setVm hvm h2
  exact ⟨c, k', i, f, a, cell, by rw [hvm.findClass]; exact h1, hi', h3, by rw [he]; exact h4, h5, h6, h7, h8, by rw [he]; exact h9, h10⟩
theorem vx_L.kept {C n d : String} {A : Nat → Prop} {U : State} {H H1 : Heap} (h : vx_L C n d A U H) (hq : ∀ a : Nat, a < H.size → ¬ A a → H1[a]? = H[a]?) : vx_L C n d A U H1 := by
  obtain ⟨c, k, i, f, a, cell, h1, h2, h3, h4, h5, h6, h7, h8, h9, h10⟩ := h
  exact ⟨c, k, i, f, a, cell, h1, h2, h3, h4, by rw [hq a (Array.getElem?_eq_some_iff.mp h5).1 h10]; exact h5, h6, h7, h8, h9, h10⟩
theorem vx_L.narrow {C n d : String} {A B : Nat → Prop} {U : State} {H : Heap} (h : vx_L C n d A U H) (hAB : ∀ q, B q → A q) : vx_L C n d B U H := by
  obtain ⟨c, k, i, f, a, cell, h1, h2, h3, h4, h5, h6, h7, h8, h9, h10⟩ := h
  exact ⟨c, k, i, f, a, cell, h1, h2, h3, h4, h5, h6, h7, h8, h9, fun z => h10 (hAB _ z)⟩
theorem vx_L.word {C n d : String} {A : Nat → Prop} {s : State} {args : Array Value} (h : vx_L C n d A s s.heap) : (Cond.laysStatic C n d).before args s = true := by
  obtain ⟨c, k, i, f, a, cell, h1, h2, h3, h4, h5, h6, h7, h8, h9, -⟩ := h
  show (Cond.laysStatic C n d).holds args s none s [] = true
  exact Cond.laysStatic_of h1 h2 h3 h4 h5 h6 h7 h8 h9
/-- .. and what it holds: null or some reference -/
def vx_Zq (C n d : String) (A : Nat → Prop) (U : State) (H : Heap) : Prop := va_Zq C n d A U H ∧ vx_L C n d A U H
theorem vx_Zq.moved {C n d : String} {A : Nat → Prop} {u U : State} {H : Heap} (hvm : u.vm.Alike U.vm) (h : vx_Zq C n d A u H) : vx_Zq C n d A U H := ⟨va_Zq.moved hvm h.1, vx_L.moved hvm h.2⟩
theorem vx_Zq.kept {C n d : String} {A : Nat → Prop} {U : State} {H H1 : Heap} (h : vx_Zq C n d A U H) (hq : ∀ a : Nat, a < H.size → ¬ A a → H1[a]? = H[a]?) : vx_Zq C n d A U H1 := ⟨va_Zq.kept h.1 hq, vx_L.kept h.2 hq⟩
theorem vx_Zq.narrow {C n d : String} {A B : Nat → Prop} {U : State} {H : Heap} (h : vx_Zq C n d A U H) (hAB : ∀ q, B q → A q) : vx_Zq C n d B U H := ⟨va_Zq.narrow h.1 hAB, vx_L.narrow h.2 hAB⟩
theorem vx_Zqof {args : Array Value} {s : State} {C n d : String} {A : Nat → Prop} (hl : (Cond.laysStatic C n d).before args s = true) (hini : (Cond.initialized C).before args s = true) (h : (Cond.isRef (.static C n d)).before args s = true) (hA : ∀ a : Nat, a < s.heap.size → ¬ A a) : vx_Zq C n d A s s.heap := by
  refine ⟨va_Zqof hl hini h hA, ?_⟩
  obtain ⟨c, k, i, f, a, cell, h1, h2, h3, h4, h5, h6, h7, h8, h9⟩ := Cond.laysStatic_spec hl
  exact ⟨c, k, i, f, a, cell, h1, h2, h3, h4, h5, h6, h7, h8, h9, hA a (Array.getElem?_eq_some_iff.mp h5).1⟩
theorem vx_isRef {C n d : String} {v : Value} {A : Nat → Prop} {s : State} {args : Array Value} (h : va_Z C n d v A s s.heap) (hv : v.isRef = true) : (Cond.isRef (.static C n d)).before args s = true := by
  obtain ⟨cf, kf, fi, f, a, cell, h1, h2, h3, h4, h5, h6, h7, -⟩ := h
  have he : (Term.static C n d).eval args s none [] s = some v := by
    simp [Term.eval, State.fieldNamed?, h1, h2, h4, h5, h6, h7]
  simp only [Cond.before, Cond.holds, Cond.value, he]
  cases v <;> simp_all [Value.isRef]
theorem vx_isRefq {C n d : String} {A : Nat → Prop} {s : State} {args : Array Value} (h : va_Zq C n d A s s.heap) : (Cond.isRef (.static C n d)).before args s = true := by
  rcases h with h | ⟨t, h⟩
  · exact vx_isRef h rfl
  · exact vx_isRef h rfl
/-- the same frame, seen from here: as if the method were called anew in this heap -/
theorem vx_rebase {T : State} (X : Stand p l e R s m args below meth c T locs cells slots) {R' : Room} (hf : R'.frames ≤ R.frames) (hl : R'.locals ≤ R.locals) (hc : cells + R'.cells ≤ R.cells) (hs : slots + R'.slots ≤ R.slots) :
    Stand p l e R' ((T.setVm s.vm).setFrames (.invoking m args :: below)) m args below meth c T [] 0 0 := by
  have htop : (T.setVm s.vm).topJava?.isSome := X.here.top
  have hF : ((T.setVm s.vm).setFrames (.invoking m args :: below)).frames = .invoking m args :: below := State.frames_setFrames _ (State.cur_lt_of_top htop)
  obtain ⟨g₀, hg0⟩ := Option.isSome_iff_exists.mp htop
  obtain ⟨r, hr⟩ := State.topJava?_eq_some.mp hg0
  have hl9 : e.platform.stackLimits (T.setVm s.vm).me = e.platform.stackLimits s.me := X.limits
  have hb9 : (T.setVm s.vm).me.stackBytes = s.me.stackBytes := X.bytes
  refine ⟨X.admits, X.cas, X.clock, hF, ?_, X.hears, X.method, X.code, X.here, X.tail, X.warmed, ?_, ?_, ?_⟩
  · have h := X.room
    have hU : ((T.setVm s.vm).setFrames (.invoking m args :: below)).localsInUse = s.localsInUse := by
      rw [State.localsInUse_invoking hF (meth := meth) (c := c) X.method X.code, State.localsInUse_invoking X.frames X.method X.code]
    simp only [State.hasRoom, Bool.and_eq_true, decide_eq_true_eq] at h ⊢
    obtain ⟨⟨⟨⟨h1, h2, h3, h4, h5, h6⟩, h7⟩, h8⟩, h9⟩ := h
    rw [X.frames, List.length_cons] at h2 h3
    have q1 := X.heapSize
    have q2 := X.used
    simp only [hF, hU, List.length_cons, State.stackLimits_setFrames, State.stackBytes_setFrames, hl9, hb9]
    refine ⟨⟨⟨⟨by omega, by omega, by omega, by omega, by omega, h6⟩, ?_⟩, ?_⟩, X.book⟩
    · show T.heap.size + R'.cells ≤ e.platform.maxCells
      omega
    · show T.slotsUsed + R'.slots ≤ e.platform.maxSlots
      omega
  · rw [State.stackLimits_setFrames]; rfl
  · rw [State.stackBytes_setFrames]; rfl
  · refine ⟨?_, Nat.le_refl _, Nat.le_refl _, ?_, ?_, fun a c9 h9 => ⟨c9, h9, rfl, rfl, fun _ _ => rfl⟩⟩
    · obtain ⟨t, ht, -⟩ := State.frames_cons hr
      show T.setVm s.vm = { ((T.setVm s.vm).setFrames (.invoking m args :: below)).setFrames (T.setVm s.vm).frames with heap := T.heap, slotsUsed := T.slotsUsed }
      rw [State.setFrames_setFrames, State.setFrames_self ht]
      rfl
    · show T.slotsUsed = T.slotsUsed + ((T.heap.toList.drop T.heap.size).map (·.slots.size)).sum
      rw [List.drop_eq_nil_of_le (Nat.le_of_eq Array.length_toList)]
      rfl
    · show ((T.heap.toList.drop T.heap.size).map (·.slots.size)).sum ≤ 0
      rw [List.drop_eq_nil_of_le (Nat.le_of_eq Array.length_toList)]
      exact Nat.le_refl _
/-- 'throw new E()': new; dup; invokespecial; athrow -/
theorem vx_throw0 {cc : ByteArray} {pc : Nat} (hexec : p.tables.exec = Jvm.exec) (hb : c.code = cc) (hl : l.stackTraces = false) {own cls : String} {names : List String} {ik ic mc ms : Nat} {A : Nat → Prop}
    (hown : s.vm.findClass own = some m.cls) (hcls : Bundle.fit cls = true) (hnames : ∀ n ∈ names, Bundle.fit n = true)
    (hk : (Cond.classLink own ik cls).before args s = true) (hini : (Cond.initialized cls).before args s = true) (hat : ∀ w ∈ vx_at0 own ic cls names, w.before args s = true)
    (hgood : ∀ w ∈ Cond.classLink own ik cls :: Cond.initialized cls :: vx_at0 own ic cls names, vx_ot w = true)
    (hU : vx_Zq Bundle.tN "UNASSIGNED_STACK" Bundle.steD A s s.heap) (hN : vx_Zq Bundle.tN "SUPPRESSED_SENTINEL" Bundle.listD A s s.heap) (hS : va_S A s.heap H locs) (hsize : ls.size = c.maxLocals)
    (d0 : decode cc pc = .ok (.new ik, 3)) (d3 : decode cc (pc + 3) = .ok (.dup, 1)) (d4 : decode cc (pc + 4) = .ok (.invokespecial ic, 3)) (d7 : decode cc (pc + 7) = .ok (.athrow, 1))
    (hout : ∀ x ∈ c.exceptionTable.toList, covers x (pc + 7) = false)
    (hRframes : names.length + 3 < R.frames) (hRlocals : (rest.map fun v => v.category).sum + (13 * (names.length + 1) + 42) ≤ R.locals) (hRcells : cells + 1 ≤ R.cells) (hRslots : slots + 6 ≤ R.slots) (hlocks : meth.locks = false)
    (hx : ∀ t : State, s.vm.Alike t.vm → H.size ≤ t.heap.size → (∀ q : Nat, q < H.size → t.heap[q]? = H[q]?) → XC cls s t)
    (hf : ∀ z ∈ locs, free z.base) (hc : cells + 1 ≤ mc) (hs : slots + 6 ≤ ms) :
    W p l e R s m args below meth c H locs cells slots (vx_MQ below Qc XC args s mc ms free) (F0 m pc ls rest) := by
  intro T hT X
  have htr : e.platform.stackTraces = false := (show e.platform.stackTraces = l.stackTraces by rw [X.admits.platform]).trans hl
  have Y := vx_rebase X (R' := { frames := R.frames, locals := R.locals, cells := 1, slots := 6 }) (Nat.le_refl _) (Nat.le_refl _) hRcells hRslots
  obtain ⟨s', hA⟩ : ∃ z, z = (T.setVm s.vm).setFrames (.invoking m args :: below) := ⟨_, rfl⟩
  rw [← hA] at Y
  have hvm : s'.vm = s.vm := by rw [hA]; rfl
  have hhp : s'.heap = H := by rw [hA]; exact hT
  have hW0 : s.WarmedH s'.vm := by rw [hvm]; exact State.WarmedH.refl s
  have hat' : ∀ w ∈ vx_at0 own ic cls names, w.before args s' = true := fun w hw => vx_ot_at hW0 hvm.symm (hgood w (List.mem_cons_of_mem _ (List.mem_cons_of_mem _ hw))) (hat w hw)
  have hk' : (Cond.classLink own ik cls).before args s' = true := vx_ot_at hW0 hvm.symm (hgood _ List.mem_cons_self) hk
  have hini' : (Cond.initialized cls).before args s' = true := vx_ot_at hW0 hvm.symm (hgood _ (List.mem_cons_of_mem _ List.mem_cons_self)) hini
  have hU' : vx_Zq Bundle.tN "UNASSIGNED_STACK" Bundle.steD A s' s'.heap := by rw [hhp]; exact vx_Zq.moved hW0.alike (hU.kept hS.2.1)
  have hN' : vx_Zq Bundle.tN "SUPPRESSED_SENTINEL" Bundle.listD A s' s'.heap := by rw [hhp]; exact vx_Zq.moved hW0.alike (hN.kept hS.2.1)
  have h : ∀ w ∈ Bundle.ownAtoms0 own ic cls names, w.before args s' = true := vx_own hat' (vx_isRefq hU'.1) (vx_isRefq hN'.1) hU'.2.word hN'.2.word
  have hown' : s'.vm.findClass own = some m.cls := by rw [hvm]; exact hown
  have hins : (Cond.instantiable cls 6).before args s' = true := h _ (by simp [Bundle.ownAtoms0])
  obtain ⟨vm₁, cX, kX, hfX, hkX, -, -, X₁, st1⟩ := Y.newCold hexec (own := own) (C := cls) (index := ik) (n := 6) hown' hk' hins hini'
    (g := F0 m pc ls rest) rfl (by rw [hb]; exact d0) (Nat.le_refl _) (Nat.le_refl _)
  generalize hT1 : (T.setVm vm₁).pushCell { cls := cX, slots := kX.instanceTypes.map defaultValue, vm := .none } = T1 at X₁ st1
  have hcat : (Value.ref T.heap.size).category = 1 := rfl
  have hcellA : T1.heap[T.heap.size]? = some (freshCell cX kX) := by rw [← hT1]; exact State.heap_pushCell_size _ _
  have d3' : decode c.code (pc + 3) = .ok (.dup, 1) := by rw [hb]; exact d3
  obtain ⟨U, hsteps, hrun, hend, hW, hsame, ce, hce, hO⟩ := X₁.ctorThrow0 hexec htr (own := own) (cls := cls) (names := names) (ic := ic) hown' hcls hnames h (fun x hx => nomatch hx) hfX hkX hcellA (by rw [hhp, hT]; exact Nat.le_refl _)
    (g := { method := m, pc := pc + 4, locals := ls, stack := .ref T.heap.size :: .ref T.heap.size :: rest, locked := none }) rfl hsize rfl rfl (rest := rest) rfl
    (by rw [hb]; exact d4) (by rw [hb]; exact d7) hout hRframes (by simp only [List.map_cons, List.sum_cons, hcat]; omega) hlocks
  obtain ⟨f1, f2⟩ := vx_frame hsame
  rw [hhp] at f1 f2
  have hWs : s.WarmedH U.vm := State.WarmedH.trans hW0 hW
  have hcl : s.vm.findClass cls = some ce.cls := by
    have h9 := hO.cls
    rw [hvm] at h9
    exact h9
  have hall : s.sameButNew ({ U with vm := s.vm } : State) locs mc ms := by
    subst hA
    obtain ⟨e1, e2⟩ := hsame
    rw [State.setFrames_setFrames] at e1
    have h2 : (T.setVm s.vm).sameButNew ({ U with vm := s.vm } : State) [] (0 + 1) (0 + 6) := ⟨e1, e2⟩
    have h3 := X.same.trans h2
    rw [List.append_nil] at h3
    exact h3.mono hc hs
  refine ⟨U, ?_, .threw T.heap.size, hrun, hend, Or.inr ⟨T.heap.size, rfl, cls, ce, locs, hx U hWs.alike f1 (fun q hq => f2 q hq (fun z hz => nomatch hz)), hce, hO.vm, hcl, hWs, hall, hf⟩⟩
  refine st1 _ ?_
  show Steps p.tables e below (T1.setTop { method := m, pc := pc + 3, locals := ls, stack := .ref T.heap.size :: rest, locked := none }) _
  jvm_step X₁.here [X₁.here.top, hexec, d3', Value.category]
  exact hsteps
/-- 'throw new E("text")': new; dup; ldc; invokespecial; athrow -/
theorem vx_throwS {cc : ByteArray} {pc : Nat} (hexec : p.tables.exec = Jvm.exec) (hb : c.code = cc) (hl : l.stackTraces = false) {own cls text : String} {names : List String} {ik is ic mc ms sa : Nat} {A : Nat → Prop}
    (hown : s.vm.findClass own = some m.cls) (hcls : Bundle.fit cls = true) (hnames : ∀ n ∈ names, Bundle.fit n = true)
    (hk : (Cond.classLink own ik cls).before args s = true) (hini : (Cond.initialized cls).before args s = true) (hstr : vk_R own is text sa s) (hat : ∀ w ∈ vx_atS own ic cls names, w.before args s = true)
    (hgood : ∀ w ∈ Cond.classLink own ik cls :: Cond.initialized cls :: vx_atS own ic cls names, vx_ot w = true)
    (hU : vx_Zq Bundle.tN "UNASSIGNED_STACK" Bundle.steD A s s.heap) (hN : vx_Zq Bundle.tN "SUPPRESSED_SENTINEL" Bundle.listD A s s.heap) (hS : va_S A s.heap H locs) (hsize : ls.size = c.maxLocals)
    (d0 : decode cc pc = .ok (.new ik, 3)) (d3 : decode cc (pc + 3) = .ok (.dup, 1)) (d4 : decode cc (pc + 4) = .ok (.ldc is, 2)) (d6 : decode cc (pc + 6) = .ok (.invokespecial ic, 3)) (d9 : decode cc (pc + 9) = .ok (.athrow, 1))
    (hout : ∀ x ∈ c.exceptionTable.toList, covers x (pc + 9) = false)
    (hRframes : names.length + 3 < R.frames) (hRlocals : (rest.map fun v => v.category).sum + (13 * (names.length + 1) + 43) ≤ R.locals) (hRcells : cells + 1 ≤ R.cells) (hRslots : slots + 6 ≤ R.slots) (hlocks : meth.locks = false)
    (hx : ∀ t : State, s.vm.Alike t.vm → H.size ≤ t.heap.size → (∀ q : Nat, q < H.size → t.heap[q]? = H[q]?) → XC cls s t)
    (hf : ∀ z ∈ locs, free z.base) (hc : cells + 1 ≤ mc) (hs : slots + 6 ≤ ms) :
    W p l e R s m args below meth c H locs cells slots (vx_MQ below Qc XC args s mc ms free) (F0 m pc ls rest) := by
  intro T hT X
  have htr : e.platform.stackTraces = false := (show e.platform.stackTraces = l.stackTraces by rw [X.admits.platform]).trans hl
  have Y := vx_rebase X (R' := { frames := R.frames, locals := R.locals, cells := 1, slots := 6 }) (Nat.le_refl _) (Nat.le_refl _) hRcells hRslots
  obtain ⟨s', hA⟩ : ∃ z, z = (T.setVm s.vm).setFrames (.invoking m args :: below) := ⟨_, rfl⟩
  rw [← hA] at Y
  have hvm : s'.vm = s.vm := by rw [hA]; rfl
  have hhp : s'.heap = H := by rw [hA]; exact hT
  have hW0 : s.WarmedH s'.vm := by rw [hvm]; exact State.WarmedH.refl s
  have hat' : ∀ w ∈ vx_atS own ic cls names, w.before args s' = true := fun w hw => vx_ot_at hW0 hvm.symm (hgood w (List.mem_cons_of_mem _ (List.mem_cons_of_mem _ hw))) (hat w hw)
  have hk' : (Cond.classLink own ik cls).before args s' = true := vx_ot_at hW0 hvm.symm (hgood _ List.mem_cons_self) hk
  have hini' : (Cond.initialized cls).before args s' = true := vx_ot_at hW0 hvm.symm (hgood _ (List.mem_cons_of_mem _ List.mem_cons_self)) hini
  have hU' : vx_Zq Bundle.tN "UNASSIGNED_STACK" Bundle.steD A s' s'.heap := by rw [hhp]; exact vx_Zq.moved hW0.alike (hU.kept hS.2.1)
  have hN' : vx_Zq Bundle.tN "SUPPRESSED_SENTINEL" Bundle.listD A s' s'.heap := by rw [hhp]; exact vx_Zq.moved hW0.alike (hN.kept hS.2.1)
  have h : ∀ w ∈ Bundle.ownAtoms own ic cls names, w.before args s' = true := vx_own hat' (vx_isRefq hU'.1) (vx_isRefq hN'.1) hU'.2.word hN'.2.word
  have hown' : s'.vm.findClass own = some m.cls := by rw [hvm]; exact hown
  have hins : (Cond.instantiable cls 6).before args s' = true := h _ (by simp [Bundle.ownAtoms])
  obtain ⟨vm₁, cX, kX, hfX, hkX, -, -, X₁, st1⟩ := Y.newCold hexec (own := own) (C := cls) (index := ik) (n := 6) hown' hk' hins hini'
    (g := F0 m pc ls rest) rfl (by rw [hb]; exact d0) (Nat.le_refl _) (Nat.le_refl _)
  generalize hT1 : (T.setVm vm₁).pushCell { cls := cX, slots := kX.instanceTypes.map defaultValue, vm := .none } = T1 at X₁ st1
  have hcat : (Value.ref T.heap.size).category = 1 := rfl
  have hcellA : T1.heap[T.heap.size]? = some (freshCell cX kX) := by rw [← hT1]; exact State.heap_pushCell_size _ _
  have d3' : decode c.code (pc + 3) = .ok (.dup, 1) := by rw [hb]; exact d3
  have d4' : decode c.code (pc + 4) = .ok (.ldc is, 2) := by rw [hb]; exact d4
  have hstr' : vk_R own is text sa s' := vk_R.warm hW0 hstr
  obtain ⟨U, hsteps, hrun, hend, hW, hsame, ce, hce, hO⟩ := X₁.ctorThrowS hexec htr (own := own) (cls := cls) (names := names) (ic := ic) hown' hcls hnames h (fun x hx => nomatch hx) hfX hkX hcellA (by rw [hhp, hT]; exact Nat.le_refl _) (msg := .ref sa) rfl
    (g := { method := m, pc := pc + 6, locals := ls, stack := .ref sa :: .ref T.heap.size :: .ref T.heap.size :: rest, locked := none }) rfl hsize rfl rfl (rest := rest) rfl
    (by rw [hb]; exact d6) (by rw [hb]; exact d9) hout hRframes (by simp only [List.map_cons, List.sum_cons, hcat]; omega) hlocks
  obtain ⟨f1, f2⟩ := vx_frame hsame
  rw [hhp] at f1 f2
  have hWs : s.WarmedH U.vm := State.WarmedH.trans hW0 hW
  have hcl : s.vm.findClass cls = some ce.cls := by
    have h9 := hO.cls
    rw [hvm] at h9
    exact h9
  have hall : s.sameButNew ({ U with vm := s.vm } : State) locs mc ms := by
    subst hA
    obtain ⟨e1, e2⟩ := hsame
    rw [State.setFrames_setFrames] at e1
    have h2 : (T.setVm s.vm).sameButNew ({ U with vm := s.vm } : State) [] (0 + 1) (0 + 6) := ⟨e1, e2⟩
    have h3 := X.same.trans h2
    rw [List.append_nil] at h3
    exact h3.mono hc hs
  refine ⟨U, ?_, .threw T.heap.size, hrun, hend, Or.inr ⟨T.heap.size, rfl, cls, ce, locs, hx U hWs.alike f1 (fun q hq => f2 q hq (fun z hz => nomatch hz)), hce, hO.vm, hcl, hWs, hall, hf⟩⟩
  refine st1 _ ?_
  show Steps p.tables e below (T1.setTop { method := m, pc := pc + 3, locals := ls, stack := .ref T.heap.size :: rest, locked := none }) _
  jvm_step X₁.here [X₁.here.top, hexec, d3', Value.category]
  exact X₁.ldcString hexec (own := own) (text := text) (index := is) (a := sa) hown' hstr'.1 hstr'.2
    (g := { method := m, pc := pc + 4, locals := ls, stack := .ref T.heap.size :: .ref T.heap.size :: rest, locked := none }) rfl d4' _ hsteps
/-- 'throw new E("text")', the text by a wide index -/
theorem vx_throwSW {cc : ByteArray} {pc : Nat} (hexec : p.tables.exec = Jvm.exec) (hb : c.code = cc) (hl : l.stackTraces = false) {own cls text : String} {names : List String} {ik is ic mc ms sa : Nat} {A : Nat → Prop}
    (hown : s.vm.findClass own = some m.cls) (hcls : Bundle.fit cls = true) (hnames : ∀ n ∈ names, Bundle.fit n = true)
    (hk : (Cond.classLink own ik cls).before args s = true) (hini : (Cond.initialized cls).before args s = true) (hstr : vk_R own is text sa s) (hat : ∀ w ∈ vx_atS own ic cls names, w.before args s = true)
    (hgood : ∀ w ∈ Cond.classLink own ik cls :: Cond.initialized cls :: vx_atS own ic cls names, vx_ot w = true)
    (hU : vx_Zq Bundle.tN "UNASSIGNED_STACK" Bundle.steD A s s.heap) (hN : vx_Zq Bundle.tN "SUPPRESSED_SENTINEL" Bundle.listD A s s.heap) (hS : va_S A s.heap H locs) (hsize : ls.size = c.maxLocals)
    (d0 : decode cc pc = .ok (.new ik, 3)) (d3 : decode cc (pc + 3) = .ok (.dup, 1)) (d4 : decode cc (pc + 4) = .ok (.ldc_w is, 3)) (d7 : decode cc (pc + 7) = .ok (.invokespecial ic, 3)) (d10 : decode cc (pc + 10) = .ok (.athrow, 1))
    (hout : ∀ x ∈ c.exceptionTable.toList, covers x (pc + 10) = false)
    (hRframes : names.length + 3 < R.frames) (hRlocals : (rest.map fun v => v.category).sum + (13 * (names.length + 1) + 43) ≤ R.locals) (hRcells : cells + 1 ≤ R.cells) (hRslots : slots + 6 ≤ R.slots) (hlocks : meth.locks = false)
    (hx : ∀ t : State, s.vm.Alike t.vm → H.size ≤ t.heap.size → (∀ q : Nat, q < H.size → t.heap[q]? = H[q]?) → XC cls s t)
    (hf : ∀ z ∈ locs, free z.base) (hc : cells + 1 ≤ mc) (hs : slots + 6 ≤ ms) :
    W p l e R s m args below meth c H locs cells slots (vx_MQ below Qc XC args s mc ms free) (F0 m pc ls rest) := by
  intro T hT X
  have htr : e.platform.stackTraces = false := (show e.platform.stackTraces = l.stackTraces by rw [X.admits.platform]).trans hl
  have Y := vx_rebase X (R' := { frames := R.frames, locals := R.locals, cells := 1, slots := 6 }) (Nat.le_refl _) (Nat.le_refl _) hRcells hRslots
  obtain ⟨s', hA⟩ : ∃ z, z = (T.setVm s.vm).setFrames (.invoking m args :: below) := ⟨_, rfl⟩
  rw [← hA] at Y
  have hvm : s'.vm = s.vm := by rw [hA]; rfl
  have hhp : s'.heap = H := by rw [hA]; exact hT
  have hW0 : s.WarmedH s'.vm := by rw [hvm]; exact State.WarmedH.refl s
  have hat' : ∀ w ∈ vx_atS own ic cls names, w.before args s' = true := fun w hw => vx_ot_at hW0 hvm.symm (hgood w (List.mem_cons_of_mem _ (List.mem_cons_of_mem _ hw))) (hat w hw)
  have hk' : (Cond.classLink own ik cls).before args s' = true := vx_ot_at hW0 hvm.symm (hgood _ List.mem_cons_self) hk
  have hini' : (Cond.initialized cls).before args s' = true := vx_ot_at hW0 hvm.symm (hgood _ (List.mem_cons_of_mem _ List.mem_cons_self)) hini
  have hU' : vx_Zq Bundle.tN "UNASSIGNED_STACK" Bundle.steD A s' s'.heap := by rw [hhp]; exact vx_Zq.moved hW0.alike (hU.kept hS.2.1)
  have hN' : vx_Zq Bundle.tN "SUPPRESSED_SENTINEL" Bundle.listD A s' s'.heap := by rw [hhp]; exact vx_Zq.moved hW0.alike (hN.kept hS.2.1)
  have h : ∀ w ∈ Bundle.ownAtoms own ic cls names, w.before args s' = true := vx_own hat' (vx_isRefq hU'.1) (vx_isRefq hN'.1) hU'.2.word hN'.2.word
  have hown' : s'.vm.findClass own = some m.cls := by rw [hvm]; exact hown
  have hins : (Cond.instantiable cls 6).before args s' = true := h _ (by simp [Bundle.ownAtoms])
  obtain ⟨vm₁, cX, kX, hfX, hkX, -, -, X₁, st1⟩ := Y.newCold hexec (own := own) (C := cls) (index := ik) (n := 6) hown' hk' hins hini'
    (g := F0 m pc ls rest) rfl (by rw [hb]; exact d0) (Nat.le_refl _) (Nat.le_refl _)
  generalize hT1 : (T.setVm vm₁).pushCell { cls := cX, slots := kX.instanceTypes.map defaultValue, vm := .none } = T1 at X₁ st1
  have hcat : (Value.ref T.heap.size).category = 1 := rfl
  have hcellA : T1.heap[T.heap.size]? = some (freshCell cX kX) := by rw [← hT1]; exact State.heap_pushCell_size _ _
  have d3' : decode c.code (pc + 3) = .ok (.dup, 1) := by rw [hb]; exact d3
  have d4' : decode c.code (pc + 4) = .ok (.ldc_w is, 3) := by rw [hb]; exact d4
  have hstr' : vk_R own is text sa s' := vk_R.warm hW0 hstr
  obtain ⟨U, hsteps, hrun, hend, hW, hsame, ce, hce, hO⟩ := X₁.ctorThrowS hexec htr (own := own) (cls := cls) (names := names) (ic := ic) hown' hcls hnames h (fun x hx => nomatch hx) hfX hkX hcellA (by rw [hhp, hT]; exact Nat.le_refl _) (msg := .ref sa) rfl
    (g := { method := m, pc := pc + 7, locals := ls, stack := .ref sa :: .ref T.heap.size :: .ref T.heap.size :: rest, locked := none }) rfl hsize rfl rfl (rest := rest) rfl
    (by rw [hb]; exact d7) (by rw [hb]; exact d10) hout hRframes (by simp only [List.map_cons, List.sum_cons, hcat]; omega) hlocks
  obtain ⟨f1, f2⟩ := vx_frame hsame
  rw [hhp] at f1 f2
  have hWs : s.WarmedH U.vm := State.WarmedH.trans hW0 hW
  have hcl : s.vm.findClass cls = some ce.cls := by
    have h9 := hO.cls
    rw [hvm] at h9
    exact h9
  have hall : s.sameButNew ({ U with vm := s.vm } : State) locs mc ms := by
    subst hA
    obtain ⟨e1, e2⟩ := hsame
    rw [State.setFrames_setFrames] at e1
    have h2 : (T.setVm s.vm).sameButNew ({ U with vm := s.vm } : State) [] (0 + 1) (0 + 6) := ⟨e1, e2⟩
    have h3 := X.same.trans h2
    rw [List.append_nil] at h3
    exact h3.mono hc hs
  refine ⟨U, ?_, .threw T.heap.size, hrun, hend, Or.inr ⟨T.heap.size, rfl, cls, ce, locs, hx U hWs.alike f1 (fun q hq => f2 q hq (fun z hz => nomatch hz)), hce, hO.vm, hcl, hWs, hall, hf⟩⟩
  refine st1 _ ?_
  show Steps p.tables e below (T1.setTop { method := m, pc := pc + 3, locals := ls, stack := .ref T.heap.size :: rest, locked := none }) _
  jvm_step X₁.here [X₁.here.top, hexec, d3', Value.category]
  exact X₁.ldcStringW hexec (own := own) (text := text) (index := is) (a := sa) hown' hstr'.1 hstr'.2
    (g := { method := m, pc := pc + 4, locals := ls, stack := .ref T.heap.size :: .ref T.heap.size :: rest, locked := none }) rfl d4' _ hsteps
end Ends
section Bodies
variable {l : Launch}
theorem vx_ofW {y : MethodName} {ws ws' : List Cond} {rm : Room} {Pc : Array Value → State → Prop} {Qc : Array Value → State → Outcome → State → Prop} {XC : String → State → State → Prop} {mc ms : Nat} {free : Addr → Prop} {cc : ByteArray} {maxL : Nat} {ret : Option FieldType}
    (hy : plainName y.cls = true) (hw : ws = Cond.code y cc maxL ret :: ws')
    (body : ∀ p e s m args below meth c s₁, BodyLoose p l y (headSpec ws rm) cc maxL ret e s m args below meth c s₁ → c.maxLocals = maxL → (∀ x ∈ c.exceptionTable.toList, False) → Pc args s →
      W p l e (headSpec ws rm).room s m args below meth c s.heap [] 0 0 (vx_MQ below Qc XC args s mc ms free) (entryFrame m args maxL)) : vx_Met l y ws rm Pc Qc XC mc ms free := by
  refine MetFree.of_bodyS (code := cc) (maxLocals := maxL) (ret := ret) hy ?_ ?_
  · intro args s m h hn
    obtain ⟨meth, c, h1, h2, h3, h4, h5, h6, -, -⟩ := Cond.code_spec hn (atoms_spec (ws := ws) h _ (by rw [hw]; exact List.mem_cons_self))
    exact ⟨meth, c, h1, h2, h3, h4, h5, h6⟩
  · intro p e s m args below meth c s₁ B hml hP _
    have hh0 : s₁.heap = s.heap := by rw [B.state]; rfl
    have ht : ∀ x ∈ c.exceptionTable.toList, False := by
      obtain ⟨meth9, c9, h1, h2, -, -, -, -, h7, -⟩ := Cond.code_spec B.named (atoms_spec (ws := ws) B.pre _ (by rw [hw]; exact List.mem_cons_self))
      cases Option.some.inj (h1.symm.trans B.method)
      cases Option.some.inj (h2.symm.trans (Stand.of_body B).code)
      intro x hx
      rw [Array.isEmpty_iff.mp h7] at hx
      cases hx
    obtain ⟨t, a1, o, b1, b2, b3⟩ := body p e s m args below meth c s₁ B hml ht hP s₁ hh0 (Stand.of_body B)
    exact ⟨t, o, a1, b1, b2, b3⟩
/-- the table of a body with handlers -/
theorem vx_table {p : Program} {x y : MethodName} {S : Spec} {cc bytes : ByteArray} {maxL maxL' : Nat} {ret ret' : Option FieldType} {e : Env} {s s₁ : State} {m : MethodId} {args : Array Value} {below : List Frame} {meth : Method} {c : Code} {hh : List (Nat × Nat × Nat × Nat)}
    (B : BodyLoose p l y S cc maxL ret e s m args below meth c s₁) (h : (Cond.codeWith y bytes maxL' ret' hh).before args s = true) : c.exceptionTable.toList = tableOf hh := by
  obtain ⟨m9, meth9, c9, hn9, h1, h2, -, -, h6, -⟩ := Cond.codeWith_spec h
  cases Option.some.inj (hn9.symm.trans B.named)
  cases Option.some.inj (h1.symm.trans B.method)
  cases Option.some.inj (h2.symm.trans (Stand.of_body B).code)
  rw [← h6, table_eq]
end Bodies
end VXA
/-! ===== END ===== -/
/-! ===== BEGIN a static call of a method with an exception table ===== -/
section VXS
variable {p : Program} {l : Launch} {e : Env} {R : Room} {s : State} {m : MethodId} {args : Array Value} {below : List Frame} {meth : Method} {c : Code} {T : State} {H : Heap} {locs : List Loc} {cells slots : Nat}
abbrev vx_CSW (R : Room) (s : State) (args : Array Value) (own : String) (index : Nat) (y : MethodName) (bytes : ByteArray) (maxL : Nat) (ret : Option FieldType) (hh : List (Nat × Nat × Nat × Nat)) (ws : List Cond) (rm : Room) (mc ms n : Nat) : Prop :=
  (rm.cells = mc ∧ rm.slots = ms ∧ rm.frames + 1 ≤ R.frames ∧ 8 + (maxL + 11) + rm.locals ≤ R.locals ∧ (∀ w ∈ ws, ∀ (a' : Array Value) (U : State), s.WarmedH U.vm → w.before a' U = true) ∧ Cond.codeWith y bytes maxL ret hh ∈ ws) ∧
  (Cond.codeWith y bytes maxL ret hh).before args s = true ∧ (Cond.initialized y.cls).before args s = true ∧ (y.cls ≠ "java/lang/invoke/MethodHandle" ∧ y.cls ≠ "java/lang/invoke/VarHandle") ∧
  (∀ sig, parseMethodDescriptor y.desc = some sig → n = sig.parameters.length) ∧ (Cond.methodLink own index y).before args s = true ∧ (Cond.static y).before args s = true
theorem vx_cwSW {own : String} {index maxL mc ms : Nat} {y : MethodName} {bytes : ByteArray} {ret : Option FieldType} {hh : List (Nat × Nat × Nat × Nat)} {Ts ws ws' : List Cond} {rm : Room} (n : Nat) (ht : ∀ w ∈ Ts, w.before args s = true) (hT : GoodIn Ts (va_wsS own index y ws)) (hw : ws = Cond.codeWith y bytes maxL ret hh :: ws') (hrc : rm.cells = mc) (hrs : rm.slots = ms)
    (hd : y.cls ≠ "java/lang/invoke/MethodHandle" ∧ y.cls ≠ "java/lang/invoke/VarHandle" ∧ (parseMethodDescriptor y.desc).map (fun d => d.parameters.length) = some n) (hR : rm.frames + 1 ≤ R.frames ∧ 8 + (maxL + 11) + rm.locals ≤ R.locals) :
    vx_CSW R s args own index y bytes maxL ret hh ws rm mc ms n := by
  have ok : ∀ w ∈ va_wsS own index y ws, w.before args s = true := fun w h => ht w (hT w h).1
  have hG : GoodIn Ts ws := fun w h => hT w (by unfold va_wsS; exact List.mem_append_right _ h)
  have hc : Cond.codeWith y bytes maxL ret hh ∈ ws := by rw [hw]; exact List.mem_cons_self
  refine ⟨⟨hrc, hrs, hR.1, hR.2, pay_in ht hG, hc⟩, ht _ (hG _ hc).1, ok _ (by simp [va_wsS]), ⟨hd.1, hd.2.1⟩, fun sig h => ?_, ok _ (by simp [va_wsS]), ok _ (by simp [va_wsS])⟩
  have h2 := hd.2.2
  rw [h] at h2
  exact (Option.some.inj h2).symm
theorem vx_callSW (X : Stand p l e R s m args below meth c T locs cells slots) (hexec : p.tables.exec = Jvm.exec) {own : String} {index : Nat} {y : MethodName} {bytes : ByteArray} {maxL : Nat} {ret : Option FieldType} {hh : List (Nat × Nat × Nat × Nat)}
    (hown : s.vm.findClass own = some m.cls) (hlink : (Cond.methodLink own index y).before args s = true) (hstat : (Cond.static y).before args s = true) (hinit : (Cond.initialized y.cls).before args s = true)
    (hcode : (Cond.codeWith y bytes maxL ret hh).before args s = true) (hy : y.cls ≠ "java/lang/invoke/MethodHandle" ∧ y.cls ≠ "java/lang/invoke/VarHandle")
    {W9 : Nat} {Pre : Pt → Array Value → Prop} {Post : Pt → Array Value → Option Value → Pt → Prop} (hK : Back l R p e below s args y 3 W9 Pre Post)
    {g : JFrame} (hg : g.method = m) (hsize : g.locals.size = c.maxLocals) {argsL rest : List Value} (hlen : ∀ sig, parseMethodDescriptor y.desc = some sig → argsL.length = sig.parameters.length)
    (hstack : g.stack = argsL.reverse ++ rest) (hW : 2 * g.monitorRoom + (rest.map fun v => v.category).sum ≤ W9) (hdg : decode c.code g.pc = .ok (.invokestatic index, 3))
    (hpre : ∀ vm₁, s.WarmedH vm₁ → Pre ⟨T.setVm vm₁, locs, cells, slots⟩ argsL.toArray) :
    ∃ (v : Option Value) (vm₁ : Vm) (B : Pt), s.WarmedH vm₁ ∧ Stand p l e R s m args below meth c B.U B.locs B.cells B.slots ∧ Post ⟨T.setVm vm₁, locs, cells, slots⟩ argsL.toArray v B ∧
      ∀ target, Steps p.tables e below (B.U.setTop { g with pc := g.pc + 3, stack := v.toList ++ rest }) target → Steps p.tables e below (T.setTop g) target := by
  obtain ⟨mk, methM, cM, hnamed, hmethM, -, -, -, -, -, -, hsigM⟩ := Cond.codeWith_spec hcode
  have hstatic : methM.isStatic = true := Cond.static_spec hnamed hmethM hstat
  obtain ⟨kP, hkP, -⟩ := className_of_methodNamed hnamed
  have hinitP : kP.init = .initialized := Cond.initialized_spec (findClass_of_methodNamed hnamed) hkP hinit
  obtain ⟨vm₁, X₁, hstep₁⟩ := X.invokestatic hexec hown hlink hnamed hmethM hstatic hkP hinitP hy (g := g) hg (argsL := argsL) (rest := rest) (hlen _ hsigM) hstack hdg
  obtain ⟨v, B, X', hpost, hsteps⟩ := hK m meth c ⟨T.setVm vm₁, locs, cells, slots⟩ { g with stack := rest } (.invokestatic index) mk argsL.toArray X₁ hg hsize hdg hW (X₁.named hnamed) (hpre vm₁ X₁.warmed)
  exact ⟨v, vm₁, B, X₁.warmed, X', hpost, fun target h => hstep₁ _ fun acts => by rw [doInvoke_state]; exact hsteps.trans h⟩
theorem vx_runSW {y : MethodName} {bytes cc : ByteArray} {maxL nL mc ms n index : Nat} {ret : Option FieldType} {hh : List (Nat × Nat × Nat × Nat)} {ws : List Cond} {rm : Room} {Pc : Array Value → State → Prop} {Qc : Array Value → State → Outcome → State → Prop} {free : Addr → Prop} {Ts : List Cond} {own : String} {As rest : List Value} {g : JFrame}
    (S : CallFix p m c cc nL s args Ts own) (hM : Met l y ws rm Pc Qc mc ms free) (cw : vx_CSW R s args own index y bytes maxL ret hh ws rm mc ms n) (hp : PreS s H Pc As)
    (hg : g.method = m) (hn : As.length = n) (hsize : g.locals.size = nL) (hstack : g.stack = As.reverse ++ rest) (hW : 2 * g.monitorRoom + (rest.map fun v => v.category).sum ≤ 8) (hdg : decode cc g.pc = .ok (.invokestatic index, 3)) (hf : cells + mc ≤ R.cells ∧ slots + ms ≤ R.slots) :
    va_Run p l e R s m args below meth c H locs cells slots mc ms g rest (Qc As.toArray) (free) := by
  obtain ⟨⟨hrc, hrs, hfr, hlo, hws, hcw⟩, hcode, hini, hy, hlen, hl, hstt⟩ := cw
  have hK : Back l R p e below s args y 3 8 (PreOf R mc ms Pc) (PostOf Qc mc ms free) := va_backW (hh := hh) (bytes := bytes) (maxL := maxL) (ret := ret) hM hp.1 hrc hrs hfr hlo hws hcw (fun a' U hW => word_at hW (Or.inl (by first | rfl | simp [Cond.onTables, Cond.keeps, Cond.steady])) hini)
  obtain ⟨hx, hb, hml, ho, -⟩ := S
  intro T hT X
  obtain ⟨v, vm₁, ⟨U', l2, c2, s2⟩, hW₁, X', ⟨g', mk, t, L, e1, e2, hq, h1, hL, h2, h3⟩, st⟩ := vx_callSW X hx (hh := hh) (bytes := bytes) (maxL := maxL) (ret := ret) ho hl hstt hini hcode hy hK hg (hsize.trans hml.symm) (argsL := As) (rest := rest) (fun sig h => hn.trans (hlen sig h)) hstack hW (by rw [hb]; exact hdg)
    (fun vm₁ hW₁ => ⟨hf.1, hf.2, hp.2 (T.setVm vm₁) hT hW₁⟩)
  dsimp only [Pt.U, Pt.locs, Pt.cells, Pt.slots] at X' e1 e2 h1 h2 h3 st
  subst h1; subst h2; subst h3
  exact ⟨v, (T.setVm vm₁).calling g' mk As.toArray, t, U', L, hT, X', hL, e1, e2, hq, st⟩
/-- not caught here, past rows that name other classes: it goes on to the caller -/
theorem vx_outP {p : Program} {l : Launch} {e : Env} {R : Room} {s : State} {m : MethodId} {args : Array Value} {below : List Frame} {meth : Method} {c : Code} {H : Heap} {locs : List Loc} {cells slots : Nat} {free : Addr → Prop} {ls : Array Slot} {rest : List Value} {Qc : Array Value → State → Outcome → State → Prop} {XC : String → State → State → Prop}
    {pc : Nat} {own E : String} {ce : Cell} {q : Addr} {mc ms : Nat} (hown : s.vm.findClass own = some m.cls) (hlocks : meth.locks = false)
    (hpass : ∀ z ∈ c.exceptionTable.toList, covers z pc = false ∨ (z.catchType ≠ 0 ∧ ∃ nm : String, (Cond.classLink own z.catchType nm).before args s = true ∧ va_Nc E nm s)) (hcell : H[q]? = some ce) (hv : ce.vm = .none) (hcl : s.vm.findClass E = some ce.cls)
    (hx : ∀ t : State, t.heap = H → s.vm.Alike t.vm → XC E s t) (hf : ∀ z ∈ locs, free z.base) (hc : cells ≤ mc) (hs : slots ≤ ms) :
    vx_W p l e R s m args below meth c H locs cells slots (vx_MQ below Qc XC args s mc ms free) (F0 m pc ls rest) q := by
  intro T hT X
  have hpl : e.platform.magicAccessors = ({} : Platform).magicAccessors := by rw [X.admits.platform]
  obtain ⟨vm', hW', X', st⟩ := X.outThrough hlocks q (g := F0 m pc ls rest) rfl rfl rfl (cell := ce) (by rw [hT]; exact hcell) (by rw [hv]; rfl)
    (by obtain ⟨k9, h9, -⟩ := Vm.findClass_spec hcl; exact ⟨k9, h9⟩) (fun z hz => by
      rcases hpass z hz with h | ⟨hz0, nm, hl1, hn1⟩
      · exact Or.inl h
      · obtain ⟨c6, hc6, hcl6⟩ := Cond.classLink_spec hown hl1 e.platform hpl
        obtain ⟨a8, b8, h1, h2, h3⟩ := hn1
        cases Option.some.inj (h1.symm.trans hcl)
        cases Option.some.inj (h2.symm.trans hc6)
        exact Or.inr ⟨hz0, _, hcl6, h3⟩)
  obtain ⟨g₀, hfr⟩ := X'.frames_eq
  have hcell9 : ((T.setVm vm').setFrames (.throwing q :: below)).heap[q]? = some ce := by
    show T.heap[q]? = some ce
    rw [hT]; exact hcell
  have hend : Ended ((T.setVm vm').setFrames (.throwing q :: below)) below (.threw q) := State.frames_setFrames _ (State.cur_lt_of_frames hfr)
  refine ⟨(T.setVm vm').setFrames (.throwing q :: below), ?_, .threw q, X'.here.running, hend, Or.inr ⟨q, rfl, E, ce, locs, hx _ hT (X'.ends _).1.alike, hcell9, hv, hcl, (X'.ends _).1, (X'.ends _).2.mono hc hs, hf⟩⟩
  rw [X.pushThrowing_eq]
  exact st
/-- a thing of a world lies in the heap -/
theorem vx_lt {D : va_G} {cl : List vw_C} {ws : va_W} {H1 : Heap} (h : va_P D cl ws H1) {k : Nat} {q : Nat × va_E} (hk : ws[k]? = some q) : q.1 < H1.size := (h k q hk).lt
end VXS
/-! ===== END ===== -/
/-! ===== BEGIN methods with a table of their own: called by a name, returning or throwing ===== -/
section VXH
/-! vx_backW, vx_callVX, vx_callSX, vx_callVW, vx_runVW, vx_runVX, vx_runSX, vx_ofWH follow the same proofs as their sisters above (Free/Laws.lean, Shelf42/LK1.lean); vx_outP calls Shelf42/NT130.lean (outThrough). -/
section
variable {l : Launch} {R : Room} {p : Program} {e : Env} {below : List Frame} {s : State} {sargs : Array Value} {y : MethodName} {len W9 : Nat}
theorem vx_backW {ws : List Cond} {rm : Room} {Pc : Array Value → State → Prop} {Qc : Array Value → State → Outcome → State → Prop} {XC : String → State → State → Prop} {mc ms : Nat} {free : Addr → Prop} {bytes : ByteArray} {maxL : Nat} {ret : Option FieldType} {hh : List (Nat × Nat × Nat × Nat)}
    (hM : vx_Met l y ws rm Pc Qc XC mc ms free) (hblind : FrameBlind Pc) (hrc : rm.cells = mc) (hrs : rm.slots = ms)
    (hframes : rm.frames + 1 ≤ R.frames) (hlocals : W9 + (maxL + 11) + rm.locals ≤ R.locals)
    (hws : ∀ w ∈ ws, ∀ a' U, s.WarmedH U.vm → w.before a' U = true) (hcode : Cond.codeWith y bytes maxL ret hh ∈ ws) (hinit : ∀ a' U, s.WarmedH U.vm → (Cond.initialized y.cls).before a' U = true) :
    vx_Back l R p e below s sargs y len W9 (PreOf R mc ms Pc) (PostOf Qc mc ms free) (vx_Post XC mc ms free) := by
  intro m meth c A g ig mk a X hg hsize hdg hW hn hp
  have h1 : (headSpec ws rm).pre.before a A.U = true := atoms_intro fun w hw => hws w hw _ _ X.warmed
  have h2 : (Cond.codeWith y bytes maxL ret hh).before a A.U = true := hws _ hcode _ _ X.warmed
  have h3 : (Cond.initialized y.cls).before a A.U = true := hinit _ _ X.warmed
  have h4 : A.cells + (headSpec ws rm).room.cells ≤ R.cells := by rw [show (headSpec ws rm).room.cells = mc from hrc]; exact hp.1
  have h5 : A.slots + (headSpec ws rm).room.slots ≤ R.slots := by rw [show (headSpec ws rm).room.slots = ms from hrs]; exact hp.2.1
  have hPc : Pc a (A.U.calling g mk a) := hblind _ _ _ _ hp.2.2
  obtain ⟨U, Ls, c0, s0⟩ := A
  dsimp only [Pt.U, Pt.locs, Pt.cells, Pt.slots] at h1 h2 h3 h4 h5 X hn hPc ⊢
  obtain ⟨m9, methY, cY, hn9, hmY, hcY, -, hlY, -⟩ := Cond.codeWith_spec h2
  cases Option.some.inj (hn9.symm.trans hn)
  obtain ⟨kY, hkY, -⟩ := className_of_methodNamed hn
  have hinitY : kY.init = .initialized := Cond.initialized_spec (findClass_of_methodNamed hn) hkY h3
  have h : At U g.method c below := by rw [hg]; exact X.here
  have hlocals9 : W9 + (maxL + 11) + (headSpec ws rm).room.locals ≤ R.locals := hlocals
  have happ : (headSpec ws rm).appliesLoose y e.platform (U.calling g mk a) = true :=
    Spec.appliesLoose_calling (g := g) h hdg hn hkY hinitY
      (X.room_calling (g := g) (R' := (headSpec ws rm).room) hsize hmY hcY hframes (by rw [hlY]; omega) h4 h5) h1
  obtain ⟨mid, hmid⟩ := h.above
  have hfr : (U.setTop g).frames = (.java g :: mid) ++ below := by rw [State.frames_setTop' g h.top, hmid]; rfl
  obtain ⟨o, s₂, hsteps, -, hend, hq⟩ := Steps.callFree hM p X.admits X.cas X.clock (acts := []) hfr happ hPc trivial
  have hq' : vx_Q Qc XC mc ms free a (U.calling g mk a) o s₂ := hq
  rw [State.frames_setTop' g h.top] at hend
  obtain ⟨g₀, hg0⟩ := Option.isSome_iff_exists.mp h.top
  obtain ⟨r, hr⟩ := State.topJava?_eq_some.mp hg0
  have hr' : (({ U with heap := s₂.heap, slotsUsed := s₂.slotsUsed } : State).setVm s₂.vm).frames = .java g₀ :: r := hr
  rcases hq' with ⟨hqc, L, hfe, hL⟩ | ⟨q, rfl, E, ce, L, hx, hce, hcv, hcl, hW₂, hsm, hL⟩
  · obtain ⟨⟨v, rfl⟩, hW₂, e2, q2, q3, q4, q5, q6⟩ := id hfe
    have e3 : s₂ = ({ (U.calling g mk a).setFrames s₂.frames with heap := s₂.heap, slotsUsed := s₂.slotsUsed } : State).setVm s₂.vm := by
      have : s₂ = ({ s₂ with vm := (U.calling g mk a).vm } : State).setVm s₂.vm := rfl
      rw [e2] at this
      exact this
    obtain ⟨c₂, i₂, len₂, hc₂, hd₂, hf₂⟩ := hend
    have hW' : U.WarmedH s₂.vm := hW₂
    have hcc : c₂ = c := by
      have h1 : s₂.code? g.method = U.code? g.method := by
        rw [State.code?_eq, State.code?_eq, hW'.alike.method?]
      exact Option.some.inj (hc₂.symm.trans (h1.trans h.code))
    subst hcc
    have hlen : len₂ = len := by rw [hdg] at hd₂; cases hd₂; rfl
    subst hlen
    have hs₂ : s₂ = (({ U with heap := s₂.heap, slotsUsed := s₂.slotsUsed } : State).setVm s₂.vm).setTop { g with pc := g.pc + len₂, stack := v.toList ++ g.stack } := by
      refine e3.trans ?_
      rw [hf₂, State.calling_eq h.top, State.setFrames_setFrames, State.setTop_of_frames _ hr', hr]
      rfl
    have hsame : U.sameButNew ({ U with heap := s₂.heap, slotsUsed := s₂.slotsUsed } : State) L mc ms := by
      refine ⟨?_, q2, q3, q4, q5, q6⟩
      obtain ⟨t, ht, -⟩ := State.frames_cons hr
      show ({ U with heap := s₂.heap, slotsUsed := s₂.slotsUsed } : State) = { U.setFrames U.frames with heap := s₂.heap, slotsUsed := s₂.slotsUsed }
      rw [State.setFrames_self ht]
    subst hg
    refine Or.inl ⟨v, ⟨(({ U with heap := s₂.heap, slotsUsed := s₂.slotsUsed } : State).setVm s₂.vm), Ls ++ L, c0 + mc, s0 + ms⟩,
      ⟨X.admits, X.cas, X.clock, X.frames, X.room, X.hears, X.method, X.code, (X.here.setHeapUsed s₂.heap s₂.slotsUsed).setVm hW'.alike, X.tail, State.WarmedH.trans X.warmed hW', X.limits, X.bytes, X.same.trans (hsame.setVm s.vm)⟩,
      ⟨g, mk, s₂, L, rfl, rfl, hqc, rfl, hL, rfl, rfl⟩, ?_⟩
    show Steps p.tables e below _ ((({ U with heap := s₂.heap, slotsUsed := s₂.slotsUsed } : State).setVm s₂.vm).setTop { g with pc := g.pc + len₂, stack := v.toList ++ g.stack })
    rw [← hs₂]
    exact hsteps
  · obtain ⟨e2, q2, q3, q4, q5, q6⟩ := id hsm
    have e3 : s₂ = ({ (U.calling g mk a).setFrames s₂.frames with heap := s₂.heap, slotsUsed := s₂.slotsUsed } : State).setVm s₂.vm := by
      have : s₂ = ({ s₂ with vm := (U.calling g mk a).vm } : State).setVm s₂.vm := rfl
      rw [e2] at this
      exact this
    have hf₂ : s₂.frames = .throwing q :: .java g :: U.frames.tail := hend
    have hW' : U.WarmedH s₂.vm := hW₂
    have hs₂ : s₂ = ((({ U with heap := s₂.heap, slotsUsed := s₂.slotsUsed } : State).setVm s₂.vm).setTop g).pushFrame (.throwing q) := by
      refine e3.trans ?_
      rw [hf₂, State.calling_eq h.top, State.setFrames_setFrames, State.pushFrame, State.frames_setTop _ hr', State.setTop_of_frames _ hr', State.setFrames_setFrames, hr]
      rfl
    have hsame : U.sameButNew ({ U with heap := s₂.heap, slotsUsed := s₂.slotsUsed } : State) L mc ms := by
      refine ⟨?_, q2, q3, q4, q5, q6⟩
      obtain ⟨t, ht, -⟩ := State.frames_cons hr
      show ({ U with heap := s₂.heap, slotsUsed := s₂.slotsUsed } : State) = { U.setFrames U.frames with heap := s₂.heap, slotsUsed := s₂.slotsUsed }
      rw [State.setFrames_self ht]
    subst hg
    refine Or.inr ⟨q, ⟨(({ U with heap := s₂.heap, slotsUsed := s₂.slotsUsed } : State).setVm s₂.vm), Ls ++ L, c0 + mc, s0 + ms⟩,
      ⟨X.admits, X.cas, X.clock, X.frames, X.room, X.hears, X.method, X.code, (X.here.setHeapUsed s₂.heap s₂.slotsUsed).setVm hW'.alike, X.tail, State.WarmedH.trans X.warmed hW', X.limits, X.bytes, X.same.trans (hsame.setVm s.vm)⟩,
      ⟨g, mk, s₂, L, E, ce, rfl, rfl, hx, hce, hcv, hcl, rfl, hL, rfl, rfl⟩, ?_⟩
    show Steps p.tables e below _ (((({ U with heap := s₂.heap, slotsUsed := s₂.slotsUsed } : State).setVm s₂.vm).setTop g).pushFrame (.throwing q))
    rw [← hs₂]
    exact hsteps
end
variable {p : Program} {l : Launch} {e : Env} {R : Room} {s : State} {m : MethodId} {args : Array Value} {below : List Frame} {meth : Method} {c : Code} {T : State} {H : Heap} {locs : List Loc} {cells slots : Nat}
theorem vx_callVX (X : Stand p l e R s m args below meth c T locs cells slots) (hexec : p.tables.exec = Jvm.exec) {own C : String} {index : Nat} {y : MethodName} {bytes : ByteArray} {maxL : Nat} {ret : Option FieldType} {hh : List (Nat × Nat × Nat × Nat)}
    (hown : s.vm.findClass own = some m.cls) (hlink : (Cond.methodLink own index y).before args s = true) (hinst : (Cond.instanceMethod y).before args s = true) (hsel : (Cond.selects C y y).before args s = true)
    (hcode : (Cond.codeWith y bytes maxL ret hh).before args s = true) (hy : y.cls ≠ "java/lang/invoke/MethodHandle" ∧ y.cls ≠ "java/lang/invoke/VarHandle")
    {W9 : Nat} {Pre : Pt → Array Value → Prop} {Post : Pt → Array Value → Option Value → Pt → Prop} {PostX : Pt → Array Value → Addr → Pt → Prop} (hK : vx_Back l R p e below s args y 3 W9 Pre Post PostX)
    {b : Addr} {cellB : Cell} (hcell : T.heap[b]? = some cellB) (hobj : cellB.vm.isStatics = false) (hcls : s.vm.findClass C = some cellB.cls)
    {g : JFrame} (hg : g.method = m) (hsize : g.locals.size = c.maxLocals) {argsL rest : List Value} (hlen : ∀ sig, parseMethodDescriptor y.desc = some sig → argsL.length = sig.parameters.length)
    (hstack : g.stack = argsL.reverse ++ .ref b :: rest) (hW : 2 * g.monitorRoom + (rest.map fun v => v.category).sum ≤ W9) (hdg : decode c.code g.pc = .ok (.invokevirtual index, 3))
    (hpre : ∀ vm₁, s.WarmedH vm₁ → Pre ⟨T.setVm vm₁, locs, cells, slots⟩ (Value.ref b :: argsL).toArray) :
    (∃ (v : Option Value) (vm₁ : Vm) (B : Pt), s.WarmedH vm₁ ∧ Stand p l e R s m args below meth c B.U B.locs B.cells B.slots ∧ Post ⟨T.setVm vm₁, locs, cells, slots⟩ (Value.ref b :: argsL).toArray v B ∧
      ∀ target, Steps p.tables e below (B.U.setTop { g with pc := g.pc + 3, stack := v.toList ++ rest }) target → Steps p.tables e below (T.setTop g) target) ∨
    (∃ (q : Addr) (vm₁ : Vm) (B : Pt), s.WarmedH vm₁ ∧ Stand p l e R s m args below meth c B.U B.locs B.cells B.slots ∧ PostX ⟨T.setVm vm₁, locs, cells, slots⟩ (Value.ref b :: argsL).toArray q B ∧
      Steps p.tables e below (T.setTop g) ((B.U.setTop { g with stack := rest }).pushFrame (.throwing q))) := by
  obtain ⟨mk, methM, hnamed, hmethM, hstM, habM⟩ := Cond.instanceMethod_spec hinst
  obtain ⟨m8, methM', cM, hn8, hmethM', -, -, -, -, -, -, hsigM⟩ := Cond.codeWith_spec hcode
  cases Option.some.inj (hn8.symm.trans hnamed)
  cases hmethM.symm.trans hmethM'
  obtain ⟨c2, r2, m2, q1, q2, q3, q4, kP, hkP, hkPi⟩ := Cond.selects_spec hsel
  cases hcls.symm.trans q1
  cases (State.methodFound?_of_named hnamed hy).symm.trans q2
  cases hnamed.symm.trans q3
  have hselP : selectMethod e.platform s.vm cellB.cls mk = .method mk := by rw [Launch.admits_selectMethod X.admits]; exact q4
  obtain ⟨vm₁, X₁, hstep₁⟩ := X.invokevirtual hexec hown hlink hnamed hmethM hstM hkP hkPi hy (a := b) (cell := cellB) hcell
    (fun z h => by rw [h] at hobj; cases hobj) hselP hmethM habM hkP hkPi (g := g) hg (argsL := argsL) (rest := rest) (hlen _ hsigM) hstack hdg
  rcases hK m meth c ⟨T.setVm vm₁, locs, cells, slots⟩ { g with stack := rest } (.invokevirtual index) mk (Value.ref b :: argsL).toArray X₁ hg hsize hdg hW (X₁.named hnamed) (hpre vm₁ X₁.warmed) with ⟨v, B, X', hpost, hsteps⟩ | ⟨q, B, X', hpost, hsteps⟩
  · exact Or.inl ⟨v, vm₁, B, X₁.warmed, X', hpost, fun target h => hstep₁ _ fun acts => by rw [doInvoke_state]; exact hsteps.trans h⟩
  · exact Or.inr ⟨q, vm₁, B, X₁.warmed, X', hpost, hstep₁ _ fun acts => by rw [doInvoke_state]; exact hsteps⟩
theorem vx_callSX (X : Stand p l e R s m args below meth c T locs cells slots) (hexec : p.tables.exec = Jvm.exec) {own : String} {index : Nat} {y : MethodName} {bytes : ByteArray} {maxL : Nat} {ret : Option FieldType} {hh : List (Nat × Nat × Nat × Nat)}
    (hown : s.vm.findClass own = some m.cls) (hlink : (Cond.methodLink own index y).before args s = true) (hstat : (Cond.static y).before args s = true) (hinit : (Cond.initialized y.cls).before args s = true)
    (hcode : (Cond.codeWith y bytes maxL ret hh).before args s = true) (hy : y.cls ≠ "java/lang/invoke/MethodHandle" ∧ y.cls ≠ "java/lang/invoke/VarHandle")
    {W9 : Nat} {Pre : Pt → Array Value → Prop} {Post : Pt → Array Value → Option Value → Pt → Prop} {PostX : Pt → Array Value → Addr → Pt → Prop} (hK : vx_Back l R p e below s args y 3 W9 Pre Post PostX)
    {g : JFrame} (hg : g.method = m) (hsize : g.locals.size = c.maxLocals) {argsL rest : List Value} (hlen : ∀ sig, parseMethodDescriptor y.desc = some sig → argsL.length = sig.parameters.length)
    (hstack : g.stack = argsL.reverse ++ rest) (hW : 2 * g.monitorRoom + (rest.map fun v => v.category).sum ≤ W9) (hdg : decode c.code g.pc = .ok (.invokestatic index, 3))
    (hpre : ∀ vm₁, s.WarmedH vm₁ → Pre ⟨T.setVm vm₁, locs, cells, slots⟩ argsL.toArray) :
    (∃ (v : Option Value) (vm₁ : Vm) (B : Pt), s.WarmedH vm₁ ∧ Stand p l e R s m args below meth c B.U B.locs B.cells B.slots ∧ Post ⟨T.setVm vm₁, locs, cells, slots⟩ argsL.toArray v B ∧
      ∀ target, Steps p.tables e below (B.U.setTop { g with pc := g.pc + 3, stack := v.toList ++ rest }) target → Steps p.tables e below (T.setTop g) target) ∨
    (∃ (q : Addr) (vm₁ : Vm) (B : Pt), s.WarmedH vm₁ ∧ Stand p l e R s m args below meth c B.U B.locs B.cells B.slots ∧ PostX ⟨T.setVm vm₁, locs, cells, slots⟩ argsL.toArray q B ∧
      Steps p.tables e below (T.setTop g) ((B.U.setTop { g with stack := rest }).pushFrame (.throwing q))) := by
  obtain ⟨mk, methM, cM, hnamed, hmethM, -, -, -, -, -, -, hsigM⟩ := Cond.codeWith_spec hcode
  have hstatic : methM.isStatic = true := Cond.static_spec hnamed hmethM hstat
  obtain ⟨kP, hkP, -⟩ := className_of_methodNamed hnamed
  have hinitP : kP.init = .initialized := Cond.initialized_spec (findClass_of_methodNamed hnamed) hkP hinit
  obtain ⟨vm₁, X₁, hstep₁⟩ := X.invokestatic hexec hown hlink hnamed hmethM hstatic hkP hinitP hy (g := g) hg (argsL := argsL) (rest := rest) (hlen _ hsigM) hstack hdg
  rcases hK m meth c ⟨T.setVm vm₁, locs, cells, slots⟩ { g with stack := rest } (.invokestatic index) mk argsL.toArray X₁ hg hsize hdg hW (X₁.named hnamed) (hpre vm₁ X₁.warmed) with ⟨v, B, X', hpost, hsteps⟩ | ⟨q, B, X', hpost, hsteps⟩
  · exact Or.inl ⟨v, vm₁, B, X₁.warmed, X', hpost, fun target h => hstep₁ _ fun acts => by rw [doInvoke_state]; exact hsteps.trans h⟩
  · exact Or.inr ⟨q, vm₁, B, X₁.warmed, X', hpost, hstep₁ _ fun acts => by rw [doInvoke_state]; exact hsteps⟩
theorem vx_callVW (X : Stand p l e R s m args below meth c T locs cells slots) (hexec : p.tables.exec = Jvm.exec) {own C : String} {index : Nat} {y : MethodName} {bytes : ByteArray} {maxL : Nat} {ret : Option FieldType} {hh : List (Nat × Nat × Nat × Nat)}
    (hown : s.vm.findClass own = some m.cls) (hlink : (Cond.methodLink own index y).before args s = true) (hinst : (Cond.instanceMethod y).before args s = true) (hsel : (Cond.selects C y y).before args s = true)
    (hcode : (Cond.codeWith y bytes maxL ret hh).before args s = true) (hy : y.cls ≠ "java/lang/invoke/MethodHandle" ∧ y.cls ≠ "java/lang/invoke/VarHandle")
    {W9 : Nat} {Pre : Pt → Array Value → Prop} {Post : Pt → Array Value → Option Value → Pt → Prop} (hK : Back l R p e below s args y 3 W9 Pre Post)
    {b : Addr} {cellB : Cell} (hcell : T.heap[b]? = some cellB) (hobj : cellB.vm.isStatics = false) (hcls : s.vm.findClass C = some cellB.cls)
    {g : JFrame} (hg : g.method = m) (hsize : g.locals.size = c.maxLocals) {argsL rest : List Value} (hlen : ∀ sig, parseMethodDescriptor y.desc = some sig → argsL.length = sig.parameters.length)
    (hstack : g.stack = argsL.reverse ++ .ref b :: rest) (hW : 2 * g.monitorRoom + (rest.map fun v => v.category).sum ≤ W9) (hdg : decode c.code g.pc = .ok (.invokevirtual index, 3))
    (hpre : ∀ vm₁, s.WarmedH vm₁ → Pre ⟨T.setVm vm₁, locs, cells, slots⟩ (Value.ref b :: argsL).toArray) :
    ∃ (v : Option Value) (vm₁ : Vm) (B : Pt), s.WarmedH vm₁ ∧ Stand p l e R s m args below meth c B.U B.locs B.cells B.slots ∧ Post ⟨T.setVm vm₁, locs, cells, slots⟩ (Value.ref b :: argsL).toArray v B ∧
      ∀ target, Steps p.tables e below (B.U.setTop { g with pc := g.pc + 3, stack := v.toList ++ rest }) target → Steps p.tables e below (T.setTop g) target := by
  obtain ⟨mk, methM, hnamed, hmethM, hstM, habM⟩ := Cond.instanceMethod_spec hinst
  obtain ⟨m8, methM', cM, hn8, hmethM', -, -, -, -, -, -, hsigM⟩ := Cond.codeWith_spec hcode
  cases Option.some.inj (hn8.symm.trans hnamed)
  cases hmethM.symm.trans hmethM'
  obtain ⟨c2, r2, m2, q1, q2, q3, q4, kP, hkP, hkPi⟩ := Cond.selects_spec hsel
  cases hcls.symm.trans q1
  cases (State.methodFound?_of_named hnamed hy).symm.trans q2
  cases hnamed.symm.trans q3
  have hselP : selectMethod e.platform s.vm cellB.cls mk = .method mk := by rw [Launch.admits_selectMethod X.admits]; exact q4
  obtain ⟨vm₁, X₁, hstep₁⟩ := X.invokevirtual hexec hown hlink hnamed hmethM hstM hkP hkPi hy (a := b) (cell := cellB) hcell
    (fun z h => by rw [h] at hobj; cases hobj) hselP hmethM habM hkP hkPi (g := g) hg (argsL := argsL) (rest := rest) (hlen _ hsigM) hstack hdg
  obtain ⟨v, B, X', hpost, hsteps⟩ := hK m meth c ⟨T.setVm vm₁, locs, cells, slots⟩ { g with stack := rest } (.invokevirtual index) mk (Value.ref b :: argsL).toArray X₁ hg hsize hdg hW (X₁.named hnamed) (hpre vm₁ X₁.warmed)
  exact ⟨v, vm₁, B, X₁.warmed, X', hpost, fun target h => hstep₁ _ fun acts => by rw [doInvoke_state]; exact hsteps.trans h⟩
abbrev vx_CVW (R : Room) (s : State) (args : Array Value) (own C : String) (index : Nat) (y : MethodName) (bytes : ByteArray) (maxL : Nat) (ret : Option FieldType) (hh : List (Nat × Nat × Nat × Nat)) (ws : List Cond) (rm : Room) (mc ms n : Nat) : Prop :=
  (rm.cells = mc ∧ rm.slots = ms ∧ rm.frames + 1 ≤ R.frames ∧ 8 + (maxL + 11) + rm.locals ≤ R.locals ∧ (∀ w ∈ ws, ∀ (a' : Array Value) (U : State), s.WarmedH U.vm → w.before a' U = true) ∧ Cond.codeWith y bytes maxL ret hh ∈ ws) ∧
  (Cond.codeWith y bytes maxL ret hh).before args s = true ∧ (Cond.initialized y.cls).before args s = true ∧ (y.cls ≠ "java/lang/invoke/MethodHandle" ∧ y.cls ≠ "java/lang/invoke/VarHandle") ∧
  (∀ sig, parseMethodDescriptor y.desc = some sig → n = sig.parameters.length) ∧ (Cond.methodLink own index y).before args s = true ∧ (Cond.instanceMethod y).before args s = true ∧ (Cond.selects C y y).before args s = true
theorem vx_cwVW {own C : String} {index maxL mc ms : Nat} {y : MethodName} {bytes : ByteArray} {ret : Option FieldType} {hh : List (Nat × Nat × Nat × Nat)} {Ts ws ws' : List Cond} {rm : Room} (n : Nat) (ht : ∀ w ∈ Ts, w.before args s = true) (hT : GoodIn Ts (wsV own index C y ws)) (hw : ws = Cond.codeWith y bytes maxL ret hh :: ws') (hrc : rm.cells = mc) (hrs : rm.slots = ms)
    (hd : y.cls = C ∧ y.cls ≠ "java/lang/invoke/MethodHandle" ∧ y.cls ≠ "java/lang/invoke/VarHandle" ∧ (parseMethodDescriptor y.desc).map (fun d => d.parameters.length) = some n) (hR : rm.frames + 1 ≤ R.frames ∧ 8 + (maxL + 11) + rm.locals ≤ R.locals) :
    vx_CVW R s args own C index y bytes maxL ret hh ws rm mc ms n := by
  obtain ⟨hC, hd⟩ := hd
  subst hC
  have ok : ∀ w ∈ wsV own index y.cls y ws, w.before args s = true := fun w h => ht w (hT w h).1
  have hG : GoodIn Ts ws := fun w h => hT w (by unfold wsV; exact List.mem_append_right _ h)
  have hc : Cond.codeWith y bytes maxL ret hh ∈ ws := by rw [hw]; exact List.mem_cons_self
  refine ⟨⟨hrc, hrs, hR.1, hR.2, pay_in ht hG, hc⟩, ht _ (hG _ hc).1, ok _ (by simp [wsV]), ⟨hd.1, hd.2.1⟩, fun sig h => ?_, ok _ (by simp [wsV]), ok _ (by simp [wsV]), ok _ (by simp [wsV])⟩
  have h2 := hd.2.2
  rw [h] at h2
  exact (Option.some.inj h2).symm
theorem vx_runVW {y : MethodName} {bytes cc : ByteArray} {maxL nL mc ms n index : Nat} {ret : Option FieldType} {hh : List (Nat × Nat × Nat × Nat)} {ws : List Cond} {rm : Room} {Pc : Array Value → State → Prop} {Qc : Array Value → State → Outcome → State → Prop} {free : Addr → Prop} {Ts : List Cond} {own C : String} {b : Addr} {As rest : List Value} {g : JFrame}
    (S : CallFix p m c cc nL s args Ts own) (hM : Met l y ws rm Pc Qc mc ms free) (cw : vx_CVW R s args own C index y bytes maxL ret hh ws rm mc ms n) (hp : PreV s H C b Pc As)
    (hg : g.method = m) (hn : As.length = n) (hsize : g.locals.size = nL) (hstack : g.stack = As.reverse ++ .ref b :: rest) (hW : 2 * g.monitorRoom + (rest.map fun v => v.category).sum ≤ 8) (hdg : decode cc g.pc = .ok (.invokevirtual index, 3)) (hf : cells + mc ≤ R.cells ∧ slots + ms ≤ R.slots) :
    va_Run p l e R s m args below meth c H locs cells slots mc ms g rest (Qc (Value.ref b :: As).toArray) free := by
  obtain ⟨⟨hrc, hrs, hfr, hlo, hws, hcw⟩, hcode, hini, hy, hlen, hl, hin, hse⟩ := cw
  have hK : Back l R p e below s args y 3 8 (PreOf R mc ms Pc) (PostOf Qc mc ms free) := va_backW (hh := hh) (bytes := bytes) (maxL := maxL) (ret := ret) hM hp.1 hrc hrs hfr hlo hws hcw (fun a' U hW => word_at hW (Or.inl (by first | rfl | simp [Cond.onTables, Cond.keeps, Cond.steady])) hini)
  obtain ⟨hx, hb, hml, ho, -⟩ := S
  obtain ⟨-, ⟨cellB, hcB, hoB, hclB⟩, hPc⟩ := hp
  intro T hT X
  obtain ⟨v, vm₁, ⟨U', l2, c2, s2⟩, hW₁, X', ⟨g', mk, t, L, e1, e2, hq, h1, hL, h2, h3⟩, st⟩ := vx_callVW X hx (C := C) (hh := hh) (bytes := bytes) (maxL := maxL) (ret := ret) ho hl hin hse hcode hy hK (by rw [hT]; exact hcB) hoB hclB hg (hsize.trans hml.symm) (argsL := As) (rest := rest) (fun sig h => hn.trans (hlen sig h)) hstack hW (by rw [hb]; exact hdg)
    (fun vm₁ hW₁ => ⟨hf.1, hf.2, hPc (T.setVm vm₁) hT hW₁⟩)
  dsimp only [Pt.U, Pt.locs, Pt.cells, Pt.slots] at X' e1 e2 h1 h2 h3 st
  subst h1; subst h2; subst h3
  exact ⟨v, (T.setVm vm₁).calling g' mk (Value.ref b :: As).toArray, t, U', L, hT, X', hL, e1, e2, hq, st⟩
section
variable {y : MethodName} {bytes cc : ByteArray} {maxL nL mc ms n index : Nat} {ret : Option FieldType} {ws : List Cond} {rm : Room} {Pc : Array Value → State → Prop} {Qc : Array Value → State → Outcome → State → Prop} {XC : String → State → State → Prop} {free : Addr → Prop} {Ts : List Cond} {own C : String} {b : Addr} {As rest : List Value} {g : JFrame}
theorem vx_runVX {hh : List (Nat × Nat × Nat × Nat)} (S : CallFix p m c cc nL s args Ts own) (hM : vx_Met l y ws rm Pc Qc XC mc ms free) (cw : vx_CVW R s args own C index y bytes maxL ret hh ws rm mc ms n) (hp : PreV s H C b Pc As)
    (hg : g.method = m) (hn : As.length = n) (hsize : g.locals.size = nL) (hstack : g.stack = As.reverse ++ .ref b :: rest) (hW : 2 * g.monitorRoom + (rest.map fun v => v.category).sum ≤ 8) (hdg : decode cc g.pc = .ok (.invokevirtual index, 3)) (hf : cells + mc ≤ R.cells ∧ slots + ms ≤ R.slots) :
    vx_Run p l e R s m args below meth c H locs cells slots mc ms g rest (Qc (Value.ref b :: As).toArray) XC free := by
  obtain ⟨⟨hrc, hrs, hfr, hlo, hws, hcw⟩, hcode, hini, hy, hlen, hl, hin, hse⟩ := cw
  have hK : vx_Back l R p e below s args y 3 8 (PreOf R mc ms Pc) (PostOf Qc mc ms free) (vx_Post XC mc ms free) := vx_backW (hh := hh) (bytes := bytes) (maxL := maxL) (ret := ret) hM hp.1 hrc hrs hfr hlo hws hcw (fun a' U hW => word_at hW (Or.inl (by first | rfl | simp [Cond.onTables, Cond.keeps, Cond.steady])) hini)
  obtain ⟨hx, hb, hml, ho, -⟩ := S
  obtain ⟨-, ⟨cellB, hcB, hoB, hclB⟩, hPc⟩ := hp
  intro T hT X
  rcases vx_callVX X hx (C := C) (hh := hh) (bytes := bytes) (maxL := maxL) (ret := ret) ho hl hin hse hcode hy hK (by rw [hT]; exact hcB) hoB hclB hg (hsize.trans hml.symm) (argsL := As) (rest := rest) (fun sig h => hn.trans (hlen sig h)) hstack hW (by rw [hb]; exact hdg)
    (fun vm₁ hW₁ => ⟨hf.1, hf.2, hPc (T.setVm vm₁) hT hW₁⟩) with ⟨v, vm₁, ⟨U', l2, c2, s2⟩, hW₁, X', ⟨g', mk, t, L, e1, e2, hq, h1, hL, h2, h3⟩, st⟩ | ⟨q, vm₁, ⟨U', l2, c2, s2⟩, hW₁, X', ⟨g', mk, t, L, E, ce, e1, e2, hq, hce, hcv, hcl, h1, hL, h2, h3⟩, st⟩
  · dsimp only [Pt.U, Pt.locs, Pt.cells, Pt.slots] at X' e1 e2 h1 h2 h3 st
    subst h1; subst h2; subst h3
    exact Or.inl ⟨v, (T.setVm vm₁).calling g' mk (Value.ref b :: As).toArray, t, U', L, hT, X', hL, e1, e2, hq, st⟩
  · dsimp only [Pt.U, Pt.locs, Pt.cells, Pt.slots] at X' e1 e2 h1 h2 h3 st hcl
    subst h1; subst h2; subst h3
    exact Or.inr ⟨q, (T.setVm vm₁).calling g' mk (Value.ref b :: As).toArray, t, U', L, E, ce, hT, X', hL, e1, e2, hq, hce, hcv, vx_cls hW₁ hcl, st⟩
theorem vx_runSX {hh : List (Nat × Nat × Nat × Nat)} (S : CallFix p m c cc nL s args Ts own) (hM : vx_Met l y ws rm Pc Qc XC mc ms free) (cw : vx_CSW R s args own index y bytes maxL ret hh ws rm mc ms n) (hp : PreS s H Pc As)
    (hg : g.method = m) (hn : As.length = n) (hsize : g.locals.size = nL) (hstack : g.stack = As.reverse ++ rest) (hW : 2 * g.monitorRoom + (rest.map fun v => v.category).sum ≤ 8) (hdg : decode cc g.pc = .ok (.invokestatic index, 3)) (hf : cells + mc ≤ R.cells ∧ slots + ms ≤ R.slots) :
    vx_Run p l e R s m args below meth c H locs cells slots mc ms g rest (Qc As.toArray) XC free := by
  obtain ⟨⟨hrc, hrs, hfr, hlo, hws, hcw⟩, hcode, hini, hy, hlen, hl, hstt⟩ := cw
  have hK : vx_Back l R p e below s args y 3 8 (PreOf R mc ms Pc) (PostOf Qc mc ms free) (vx_Post XC mc ms free) := vx_backW (hh := hh) (bytes := bytes) (maxL := maxL) (ret := ret) hM hp.1 hrc hrs hfr hlo hws hcw (fun a' U hW => word_at hW (Or.inl (by first | rfl | simp [Cond.onTables, Cond.keeps, Cond.steady])) hini)
  obtain ⟨hx, hb, hml, ho, -⟩ := S
  intro T hT X
  rcases vx_callSX X hx (hh := hh) (bytes := bytes) (maxL := maxL) (ret := ret) ho hl hstt hini hcode hy hK hg (hsize.trans hml.symm) (argsL := As) (rest := rest) (fun sig h => hn.trans (hlen sig h)) hstack hW (by rw [hb]; exact hdg)
    (fun vm₁ hW₁ => ⟨hf.1, hf.2, hp.2 (T.setVm vm₁) hT hW₁⟩) with ⟨v, vm₁, ⟨U', l2, c2, s2⟩, hW₁, X', ⟨g', mk, t, L, e1, e2, hq, h1, hL, h2, h3⟩, st⟩ | ⟨q, vm₁, ⟨U', l2, c2, s2⟩, hW₁, X', ⟨g', mk, t, L, E, ce, e1, e2, hq, hce, hcv, hcl, h1, hL, h2, h3⟩, st⟩
  · dsimp only [Pt.U, Pt.locs, Pt.cells, Pt.slots] at X' e1 e2 h1 h2 h3 st
    subst h1; subst h2; subst h3
    exact Or.inl ⟨v, (T.setVm vm₁).calling g' mk As.toArray, t, U', L, hT, X', hL, e1, e2, hq, st⟩
  · dsimp only [Pt.U, Pt.locs, Pt.cells, Pt.slots] at X' e1 e2 h1 h2 h3 st hcl
    subst h1; subst h2; subst h3
    exact Or.inr ⟨q, (T.setVm vm₁).calling g' mk As.toArray, t, U', L, E, ce, hT, X', hL, e1, e2, hq, hce, hcv, vx_cls hW₁ hcl, st⟩
end
end VXH
theorem vx_ofWH {l : Launch} {y : MethodName} {ws ws' : List Cond} {rm : Room} {Pc : Array Value → State → Prop} {Qc : Array Value → State → Outcome → State → Prop} {XC : String → State → State → Prop} {mc ms : Nat} {free : Addr → Prop} {cc : ByteArray} {maxL : Nat} {ret : Option FieldType} {hh : List (Nat × Nat × Nat × Nat)}
    (hy : plainName y.cls = true) (hw : ws = Cond.codeWith y cc maxL ret hh :: ws')
    (body : ∀ p e s m args below meth c s₁, BodyLoose p l y (headSpec ws rm) cc maxL ret e s m args below meth c s₁ → c.maxLocals = maxL → Pc args s →
      W p l e (headSpec ws rm).room s m args below meth c s.heap [] 0 0 (vx_MQ below Qc XC args s mc ms free) (entryFrame m args maxL)) : vx_Met l y ws rm Pc Qc XC mc ms free := by
  refine MetFree.of_bodyS (code := cc) (maxLocals := maxL) (ret := ret) hy ?_ ?_
  · intro args s m h hn
    obtain ⟨m9, meth, c, hn9, h1, h2, h3, h4, -, h5, h6, -⟩ := Cond.codeWith_spec (atoms_spec (ws := ws) h _ (by rw [hw]; exact List.mem_cons_self))
    cases hn.symm.trans hn9
    exact ⟨meth, c, h1, h2, h3, h4, h5, h6⟩
  · intro p e s m args below meth c s₁ B hml hP _
    have hh0 : s₁.heap = s.heap := by rw [B.state]; rfl
    obtain ⟨t, a1, o, b1, b2, b3⟩ := body p e s m args below meth c s₁ B hml hP s₁ hh0 (Stand.of_body B)
    exact ⟨t, o, a1, b1, b2, b3⟩
/-! ===== END ===== -/

def RX0 : String := "Calibratory$Calibration"
def TX0 : u_T := fun k => match k with
  | 0 => ("Calibratory$Calibration", "moment", "I", true)
  | 1 => ("Calibratory$Calibration", "day", "I", true)
  | 2 => ("Calibratory$Calibration", "left", "I", true)
  | 3 => ("Calibratory$Calibration", "before", "LCalibratory$Calibration;", true)
  | 4 => ("Calibratory$Calibration", "basis", "LCalibratory$Calibration;", true)
  | 5 => ("Calibratory$Calibration", "failed", "Z", false)
  | 6 => ("Calibratory$Calibration", "suspect", "Z", false)
  | 7 => ("Calibratory$Calibration", "replacedAt", "I", false)
  | 8 => ("Calibratory$Calibration", "pointDays", "I", false)
  | _ => ("Calibratory$Calibration", "pointDrift", "I", false)
def tyX0 : Nat → FieldType := fun k => match k with
  | 0 => .int
  | 1 => .int
  | 2 => .int
  | 3 => .object "Calibratory$Calibration"
  | 4 => .object "Calibratory$Calibration"
  | 5 => .boolean
  | 6 => .boolean
  | 7 => .int
  | 8 => .int
  | _ => .int
abbrev wsX00 : List Cond := u_ws RX0 TX0 10
theorem nmX0 : ∀ a, a < 10 → ∀ b, b < 10 → a ≠ b → (TX0 a).2.1 ≠ (TX0 b).2.1 := by decide +kernel
theorem tyX0_ok : ∀ k, k < 10 → parseFieldDescriptor (TX0 k).2.2.1 = some (tyX0 k) := by decide +kernel
abbrev cX0_init : ByteArray := prog_2_method_1_code
def yX0_init : MethodName := ⟨RX0, "<init>", "(IIILCalibratory$Calibration;LCalibratory$Calibration;)V"⟩
def RX1 : String := "Calibratory$Instrument"
def TX1 : u_T := fun k => match k with
  | 0 => ("Calibratory$Instrument", "number", "I", true)
  | 1 => ("Calibratory$Instrument", "tolerance", "I", true)
  | 2 => ("Calibratory$Instrument", "ownUncertainty", "I", true)
  | 3 => ("Calibratory$Instrument", "interval", "I", false)
  | 4 => ("Calibratory$Instrument", "reference", "LCalibratory$Instrument;", false)
  | 5 => ("Calibratory$Instrument", "last", "LCalibratory$Calibration;", false)
  | 6 => ("Calibratory$Instrument", "failed", "I", false)
  | 7 => ("Calibratory$Instrument", "sumOfProducts", "J", false)
  | _ => ("Calibratory$Instrument", "sumOfSquares", "J", false)
def tyX1 : Nat → FieldType := fun k => match k with
  | 0 => .int
  | 1 => .int
  | 2 => .int
  | 3 => .int
  | 4 => .object "Calibratory$Instrument"
  | 5 => .object "Calibratory$Calibration"
  | 6 => .int
  | 7 => .long
  | _ => .long
abbrev wsX10 : List Cond := u_ws RX1 TX1 9
theorem nmX1 : ∀ a, a < 9 → ∀ b, b < 9 → a ≠ b → (TX1 a).2.1 ≠ (TX1 b).2.1 := by decide +kernel
theorem tyX1_ok : ∀ k, k < 9 → parseFieldDescriptor (TX1 k).2.2.1 = some (tyX1 k) := by decide +kernel
abbrev cX1_init : ByteArray := prog_3_method_1_code
def yX1_init : MethodName := ⟨RX1, "<init>", "(IIII)V"⟩
def RX2 : String := "Calibratory$Measurement"
def TX2 : u_T := fun k => match k with
  | 0 => ("Calibratory$Measurement", "moment", "I", true)
  | 1 => ("Calibratory$Measurement", "basis", "LCalibratory$Calibration;", true)
  | _ => ("Calibratory$Measurement", "recalled", "Z", false)
def tyX2 : Nat → FieldType := fun k => match k with
  | 0 => .int
  | 1 => .object "Calibratory$Calibration"
  | _ => .boolean
abbrev wsX20 : List Cond := u_ws RX2 TX2 3
theorem nmX2 : ∀ a, a < 3 → ∀ b, b < 3 → a ≠ b → (TX2 a).2.1 ≠ (TX2 b).2.1 := by decide +kernel
theorem tyX2_ok : ∀ k, k < 3 → parseFieldDescriptor (TX2 k).2.2.1 = some (tyX2 k) := by decide +kernel
abbrev cX2_init : ByteArray := prog_4_method_1_code
def yX2_init : MethodName := ⟨RX2, "<init>", "(ILCalibratory$Calibration;)V"⟩
def RX3 : String := "Calibratory"
def TX3 : u_T := fun k => match k with
  | 0 => ("Calibratory", "told", "[LCalibratory$Instrument;", true)
  | 1 => ("Calibratory", "made", "[LCalibratory$Measurement;", true)
  | 2 => ("Calibratory", "log", "[LCalibratory$Calibration;", true)
  | 3 => ("Calibratory", "toldCount", "I", false)
  | 4 => ("Calibratory", "madeCount", "I", false)
  | 5 => ("Calibratory", "logCount", "I", false)
  | 6 => ("Calibratory", "recalledCount", "I", false)
  | 7 => ("Calibratory", "currentDay", "I", false)
  | _ => ("Calibratory", "moment", "I", false)
def tyX3 : Nat → FieldType := fun k => match k with
  | 0 => .array (.object "Calibratory$Instrument")
  | 1 => .array (.object "Calibratory$Measurement")
  | 2 => .array (.object "Calibratory$Calibration")
  | 3 => .int
  | 4 => .int
  | 5 => .int
  | 6 => .int
  | 7 => .int
  | _ => .int
abbrev wsX30 : List Cond := u_ws RX3 TX3 9
theorem nmX3 : ∀ a, a < 9 → ∀ b, b < 9 → a ≠ b → (TX3 a).2.1 ≠ (TX3 b).2.1 := by decide +kernel
theorem tyX3_ok : ∀ k, k < 9 → parseFieldDescriptor (TX3 k).2.2.1 = some (tyX3 k) := by decide +kernel
abbrev cX3_init : ByteArray := prog_1_method_1_code
def yX3_init : MethodName := ⟨RX3, "<init>", "()V"⟩
abbrev cX3_tell : ByteArray := prog_1_method_2_code
def yX3_tell : MethodName := ⟨RX3, "tell", "(IIII)I"⟩
abbrev cX3_refer : ByteArray := prog_1_method_3_code
def yX3_refer : MethodName := ⟨RX3, "refer", "(II)I"⟩
abbrev cX3_pass : ByteArray := prog_1_method_4_code
def yX3_pass : MethodName := ⟨RX3, "pass", "(I)I"⟩
abbrev cX3_today : ByteArray := prog_1_method_5_code
def yX3_today : MethodName := ⟨RX3, "today", "()I"⟩
abbrev cX3_instruments : ByteArray := prog_1_method_6_code
def yX3_instruments : MethodName := ⟨RX3, "instruments", "()I"⟩
abbrev cX3_known : ByteArray := prog_1_method_7_code
def yX3_known : MethodName := ⟨RX3, "known", "(I)LCalibratory$Instrument;"⟩
abbrev cX3_knownOrNone : ByteArray := prog_1_method_8_code
def yX3_knownOrNone : MethodName := ⟨RX3, "knownOrNone", "(I)LCalibratory$Instrument;"⟩
abbrev cX3_numberOf : ByteArray := prog_1_method_9_code
def yX3_numberOf : MethodName := ⟨RX3, "numberOf", "(LCalibratory$Instrument;)I"⟩
abbrev cX3_isInChain : ByteArray := prog_1_method_10_code
def yX3_isInChain : MethodName := ⟨RX3, "isInChain", "(LCalibratory$Instrument;LCalibratory$Instrument;)Z"⟩
abbrev cX3_calibrate : ByteArray := prog_1_method_11_code
def yX3_calibrate : MethodName := ⟨RX3, "calibrate", "(III)I"⟩
abbrev cX3_measure : ByteArray := prog_1_method_12_code
def yX3_measure : MethodName := ⟨RX3, "measure", "(I)I"⟩
abbrev cX3_isNoError : ByteArray := prog_1_method_13_code
def yX3_isNoError : MethodName := ⟨RX3, "isNoError", "(I)Z"⟩
abbrev cX3_settle : ByteArray := prog_1_method_14_code
def yX3_settle : MethodName := ⟨RX3, "settle", "(LCalibratory$Instrument;LCalibratory$Calibration;LCalibratory$Calibration;I)I"⟩
abbrev cX3_nextInterval : ByteArray := prog_1_method_15_code
def yX3_nextInterval : MethodName := ⟨RX3, "nextInterval", "(LCalibratory$Instrument;I)I"⟩
abbrev cX3_sumPoints : ByteArray := prog_1_method_16_code
def yX3_sumPoints : MethodName := ⟨RX3, "sumPoints", "(LCalibratory$Instrument;)V"⟩
abbrev cX3_intervalOf : ByteArray := prog_1_method_17_code
def yX3_intervalOf : MethodName := ⟨RX3, "intervalOf", "(I)I"⟩
abbrev cX3_dueOf : ByteArray := prog_1_method_18_code
def yX3_dueOf : MethodName := ⟨RX3, "dueOf", "(I)I"⟩
abbrev cX3_isSuspect : ByteArray := prog_1_method_19_code
def yX3_isSuspect : MethodName := ⟨RX3, "isSuspect", "(I)Z"⟩
abbrev cX3_distrusted : ByteArray := prog_1_method_20_code
def yX3_distrusted : MethodName := ⟨RX3, "distrusted", "(I)I"⟩
abbrev cX3_chain : ByteArray := prog_1_method_21_code
def yX3_chain : MethodName := ⟨RX3, "chain", "(I)I"⟩
abbrev cX3_failures : ByteArray := prog_1_method_22_code
def yX3_failures : MethodName := ⟨RX3, "failures", "(I)I"⟩
abbrev cX3_dueDay : ByteArray := prog_1_method_23_code
def yX3_dueDay : MethodName := ⟨RX3, "dueDay", "(LCalibratory$Instrument;LCalibratory$Calibration;)I"⟩
abbrev cX3_isInForce : ByteArray := prog_1_method_24_code
def yX3_isInForce : MethodName := ⟨RX3, "isInForce", "(LCalibratory$Instrument;)Z"⟩
abbrev cX3_firstOutOfForce : ByteArray := prog_1_method_25_code
def yX3_firstOutOfForce : MethodName := ⟨RX3, "firstOutOfForce", "(LCalibratory$Instrument;)LCalibratory$Instrument;"⟩
abbrev cX3_slope : ByteArray := prog_1_method_26_code
def yX3_slope : MethodName := ⟨RX3, "slope", "(I)D"⟩
abbrev cX3_expected : ByteArray := prog_1_method_27_code
def yX3_expected : MethodName := ⟨RX3, "expected", "(II)J"⟩
abbrev cX3_driftsOut : ByteArray := prog_1_method_28_code
def yX3_driftsOut : MethodName := ⟨RX3, "driftsOut", "(I)I"⟩
abbrev cX3_uncertainty : ByteArray := prog_1_method_29_code
def yX3_uncertainty : MethodName := ⟨RX3, "uncertainty", "(I)I"⟩
abbrev cX3_limit : ByteArray := prog_1_method_30_code
def yX3_limit : MethodName := ⟨RX3, "limit", "(I)I"⟩
abbrev cX3_errorAfter : ByteArray := prog_1_method_31_code
def yX3_errorAfter : MethodName := ⟨RX3, "errorAfter", "(LCalibratory$Instrument;LCalibratory$Calibration;I)J"⟩
abbrev cX3_isOutAfter : ByteArray := prog_1_method_32_code
def yX3_isOutAfter : MethodName := ⟨RX3, "isOutAfter", "(LCalibratory$Instrument;LCalibratory$Calibration;I)Z"⟩
abbrev cX3_uncertaintyWithChain : ByteArray := prog_1_method_33_code
def yX3_uncertaintyWithChain : MethodName := ⟨RX3, "uncertaintyWithChain", "(LCalibratory$Instrument;I)I"⟩
abbrev cX3_leastRoot : ByteArray := prog_1_method_34_code
def yX3_leastRoot : MethodName := ⟨RX3, "leastRoot", "(I)I"⟩
abbrev cX3_measurements : ByteArray := prog_1_method_35_code
def yX3_measurements : MethodName := ⟨RX3, "measurements", "()I"⟩
abbrev cX3_isCalledBack : ByteArray := prog_1_method_36_code
def yX3_isCalledBack : MethodName := ⟨RX3, "isCalledBack", "(I)Z"⟩
abbrev cX3_calledBack : ByteArray := prog_1_method_37_code
def yX3_calledBack : MethodName := ⟨RX3, "calledBack", "()I"⟩
abbrev cX3_calledBackByLog : ByteArray := prog_1_method_38_code
def yX3_calledBackByLog : MethodName := ⟨RX3, "calledBackByLog", "()I"⟩
abbrev cX3_atStake : ByteArray := prog_1_method_39_code
def yX3_atStake : MethodName := ⟨RX3, "atStake", "(I)I"⟩
abbrev cX3_restsOn : ByteArray := prog_1_method_40_code
def yX3_restsOn : MethodName := ⟨RX3, "restsOn", "(LCalibratory$Calibration;LCalibratory$Calibration;I)Z"⟩
abbrev cX3_isAtStake : ByteArray := prog_1_method_41_code
def yX3_isAtStake : MethodName := ⟨RX3, "isAtStake", "(LCalibratory$Measurement;LCalibratory$Calibration;)Z"⟩
abbrev cX3_countAtStake : ByteArray := prog_1_method_42_code
def yX3_countAtStake : MethodName := ⟨RX3, "countAtStake", "(LCalibratory$Calibration;)I"⟩
abbrev cX3_callBack : ByteArray := prog_1_method_43_code
def yX3_callBack : MethodName := ⟨RX3, "callBack", "(LCalibratory$Calibration;)I"⟩
abbrev cX3_logRecalls : ByteArray := prog_1_method_44_code
def yX3_logRecalls : MethodName := ⟨RX3, "logRecalls", "(LCalibratory$Measurement;)Z"⟩
abbrev cX3_benchDay : ByteArray := prog_1_method_45_code
def yX3_benchDay : MethodName := ⟨RX3, "benchDay", "(II)I"⟩
abbrev cX3_late : ByteArray := prog_1_method_46_code
def yX3_late : MethodName := ⟨RX3, "late", "(I)I"⟩
abbrev cX3_countAhead : ByteArray := prog_1_method_47_code
def yX3_countAhead : MethodName := ⟨RX3, "countAhead", "(LCalibratory$Instrument;LCalibratory$Calibration;)I"⟩
def RX4 : String := "CalibratoryModel"
def TX4 : u_T := fun k => match k with
  | 0 => ("CalibratoryModel", "thrown", "I", false)
  | 1 => ("CalibratoryModel", "today", "I", false)
  | 2 => ("CalibratoryModel", "instruments", "I", false)
  | 3 => ("CalibratoryModel", "done", "I", false)
  | 4 => ("CalibratoryModel", "references", "[I", true)
  | 5 => ("CalibratoryModel", "tolerances", "[I", true)
  | 6 => ("CalibratoryModel", "uncertainties", "[I", true)
  | 7 => ("CalibratoryModel", "intervals", "[I", true)
  | 8 => ("CalibratoryModel", "numbers", "[I", true)
  | 9 => ("CalibratoryModel", "madeWith", "[I", true)
  | 10 => ("CalibratoryModel", "days", "[I", true)
  | 11 => ("CalibratoryModel", "dues", "[I", true)
  | 12 => ("CalibratoryModel", "lefts", "[I", true)
  | 13 => ("CalibratoryModel", "suspect", "[Z", true)
  | 14 => ("CalibratoryModel", "failures", "[I", true)
  | 15 => ("CalibratoryModel", "points", "[I", true)
  | 16 => ("CalibratoryModel", "pointDays", "[I", true)
  | 17 => ("CalibratoryModel", "pointErrors", "[I", true)
  | 18 => ("CalibratoryModel", "measurements", "I", false)
  | 19 => ("CalibratoryModel", "usedFor", "[I", true)
  | 20 => ("CalibratoryModel", "numberOf", "[I", true)
  | _ => ("CalibratoryModel", "called", "[Z", true)
def tyX4 : Nat → FieldType := fun k => match k with
  | 0 => .int
  | 1 => .int
  | 2 => .int
  | 3 => .int
  | 4 => .array .int
  | 5 => .array .int
  | 6 => .array .int
  | 7 => .array .int
  | 8 => .array .int
  | 9 => .array .int
  | 10 => .array .int
  | 11 => .array .int
  | 12 => .array .int
  | 13 => .array .boolean
  | 14 => .array .int
  | 15 => .array .int
  | 16 => .array .int
  | 17 => .array .int
  | 18 => .int
  | 19 => .array .int
  | 20 => .array .int
  | _ => .array .boolean
abbrev wsX40 : List Cond := u_ws RX4 TX4 22
theorem nmX4 : ∀ a, a < 22 → ∀ b, b < 22 → a ≠ b → (TX4 a).2.1 ≠ (TX4 b).2.1 := by decide +kernel
theorem tyX4_ok : ∀ k, k < 22 → parseFieldDescriptor (TX4 k).2.2.1 = some (tyX4 k) := by decide +kernel
abbrev cX4_init : ByteArray := prog_6_method_1_code
def yX4_init : MethodName := ⟨RX4, "<init>", "()V"⟩
abbrev cX4_thrown : ByteArray := prog_6_method_2_code
def yX4_thrown : MethodName := ⟨RX4, "thrown", "()I"⟩
abbrev cX4_holds : ByteArray := prog_6_method_3_code
def yX4_holds : MethodName := ⟨RX4, "holds", "(I)Z"⟩
abbrev cX4_isInstrument : ByteArray := prog_6_method_4_code
def yX4_isInstrument : MethodName := ⟨RX4, "isInstrument", "(I)Z"⟩
abbrev cX4_unsigned : ByteArray := prog_6_method_5_code
def yX4_unsigned : MethodName := ⟨RX4, "unsigned", "(I)I"⟩
abbrev cX4_isCalibrated : ByteArray := prog_6_method_6_code
def yX4_isCalibrated : MethodName := ⟨RX4, "isCalibrated", "(I)Z"⟩
abbrev cX4_tell : ByteArray := prog_6_method_7_code
def yX4_tell : MethodName := ⟨RX4, "tell", "(IIII)I"⟩
abbrev cX4_isInChain : ByteArray := prog_6_method_8_code
def yX4_isInChain : MethodName := ⟨RX4, "isInChain", "(II)Z"⟩
abbrev cX4_refer : ByteArray := prog_6_method_9_code
def yX4_refer : MethodName := ⟨RX4, "refer", "(II)I"⟩
abbrev cX4_pass : ByteArray := prog_6_method_10_code
def yX4_pass : MethodName := ⟨RX4, "pass", "(I)I"⟩
abbrev cX4_today : ByteArray := prog_6_method_11_code
def yX4_today : MethodName := ⟨RX4, "today", "()I"⟩
abbrev cX4_instruments : ByteArray := prog_6_method_12_code
def yX4_instruments : MethodName := ⟨RX4, "instruments", "()I"⟩
abbrev cX4_isInForce : ByteArray := prog_6_method_13_code
def yX4_isInForce : MethodName := ⟨RX4, "isInForce", "(I)Z"⟩
abbrev cX4_firstDistrusted : ByteArray := prog_6_method_14_code
def yX4_firstDistrusted : MethodName := ⟨RX4, "firstDistrusted", "(I)I"⟩
abbrev cX4_reached : ByteArray := prog_6_method_15_code
def yX4_reached : MethodName := ⟨RX4, "reached", "(I)I"⟩
abbrev cX4_recalls : ByteArray := prog_6_method_16_code
def yX4_recalls : MethodName := ⟨RX4, "recalls", "(IZ)I"⟩
abbrev cX4_fails : ByteArray := prog_6_method_17_code
def yX4_fails : MethodName := ⟨RX4, "fails", "(I)I"⟩
abbrev cX4_laysPoint : ByteArray := prog_6_method_18_code
def yX4_laysPoint : MethodName := ⟨RX4, "laysPoint", "(III)V"⟩
abbrev cX4_isError : ByteArray := prog_6_method_19_code
def yX4_isError : MethodName := ⟨RX4, "isError", "(I)Z"⟩
abbrev cX4_calibrate : ByteArray := prog_6_method_20_code
def yX4_calibrate : MethodName := ⟨RX4, "calibrate", "(III)I"⟩
abbrev cX4_measure : ByteArray := prog_6_method_21_code
def yX4_measure : MethodName := ⟨RX4, "measure", "(I)I"⟩
abbrev cX4_isAsked : ByteArray := prog_6_method_22_code
def yX4_isAsked : MethodName := ⟨RX4, "isAsked", "(I)Z"⟩
abbrev cX4_intervalOf : ByteArray := prog_6_method_23_code
def yX4_intervalOf : MethodName := ⟨RX4, "intervalOf", "(I)I"⟩
abbrev cX4_dueOf : ByteArray := prog_6_method_24_code
def yX4_dueOf : MethodName := ⟨RX4, "dueOf", "(I)I"⟩
abbrev cX4_isSuspect : ByteArray := prog_6_method_25_code
def yX4_isSuspect : MethodName := ⟨RX4, "isSuspect", "(I)Z"⟩
abbrev cX4_distrusted : ByteArray := prog_6_method_26_code
def yX4_distrusted : MethodName := ⟨RX4, "distrusted", "(I)I"⟩
abbrev cX4_chain : ByteArray := prog_6_method_27_code
def yX4_chain : MethodName := ⟨RX4, "chain", "(I)I"⟩
abbrev cX4_failures : ByteArray := prog_6_method_28_code
def yX4_failures : MethodName := ⟨RX4, "failures", "(I)I"⟩
abbrev cX4_products : ByteArray := prog_6_method_29_code
def yX4_products : MethodName := ⟨RX4, "products", "(I)J"⟩
abbrev cX4_squares : ByteArray := prog_6_method_30_code
def yX4_squares : MethodName := ⟨RX4, "squares", "(I)J"⟩
abbrev cX4_slope : ByteArray := prog_6_method_31_code
def yX4_slope : MethodName := ⟨RX4, "slope", "(I)D"⟩
abbrev cX4_errorAt : ByteArray := prog_6_method_32_code
def yX4_errorAt : MethodName := ⟨RX4, "errorAt", "(II)J"⟩
abbrev cX4_expected : ByteArray := prog_6_method_33_code
def yX4_expected : MethodName := ⟨RX4, "expected", "(II)J"⟩
abbrev cX4_driftsOut : ByteArray := prog_6_method_34_code
def yX4_driftsOut : MethodName := ⟨RX4, "driftsOut", "(I)I"⟩
abbrev cX4_root : ByteArray := prog_6_method_35_code
def yX4_root : MethodName := ⟨RX4, "root", "(I)I"⟩
abbrev cX4_withChain : ByteArray := prog_6_method_36_code
def yX4_withChain : MethodName := ⟨RX4, "withChain", "(I)I"⟩
abbrev cX4_uncertainty : ByteArray := prog_6_method_37_code
def yX4_uncertainty : MethodName := ⟨RX4, "uncertainty", "(I)I"⟩
abbrev cX4_limit : ByteArray := prog_6_method_38_code
def yX4_limit : MethodName := ⟨RX4, "limit", "(I)I"⟩
abbrev cX4_measurements : ByteArray := prog_6_method_39_code
def yX4_measurements : MethodName := ⟨RX4, "measurements", "()I"⟩
abbrev cX4_isCalledBack : ByteArray := prog_6_method_40_code
def yX4_isCalledBack : MethodName := ⟨RX4, "isCalledBack", "(I)Z"⟩
abbrev cX4_calledNow : ByteArray := prog_6_method_41_code
def yX4_calledNow : MethodName := ⟨RX4, "calledNow", "()I"⟩
abbrev cX4_calledBack : ByteArray := prog_6_method_42_code
def yX4_calledBack : MethodName := ⟨RX4, "calledBack", "()I"⟩
abbrev cX4_calledBackByLog : ByteArray := prog_6_method_43_code
def yX4_calledBackByLog : MethodName := ⟨RX4, "calledBackByLog", "()I"⟩
abbrev cX4_atStake : ByteArray := prog_6_method_44_code
def yX4_atStake : MethodName := ⟨RX4, "atStake", "(I)I"⟩
abbrev cX4_dayOnBench : ByteArray := prog_6_method_45_code
def yX4_dayOnBench : MethodName := ⟨RX4, "dayOnBench", "(II)I"⟩
abbrev cX4_isEach : ByteArray := prog_6_method_46_code
def yX4_isEach : MethodName := ⟨RX4, "isEach", "(I)Z"⟩
abbrev cX4_benchDay : ByteArray := prog_6_method_47_code
def yX4_benchDay : MethodName := ⟨RX4, "benchDay", "(II)I"⟩
abbrev cX4_late : ByteArray := prog_6_method_48_code
def yX4_late : MethodName := ⟨RX4, "late", "(I)I"⟩
def RJ9 : String := "java/lang/Math"
def TJ9 : u_T := fun k => match k with
  | _ => ("", "", "", false)
def tyJ9 : Nat → FieldType := fun k => match k with
  | _ => .int
abbrev wsJ90 : List Cond := u_ws RJ9 TJ9 0
theorem nmJ9 : ∀ a, a < 0 → ∀ b, b < 0 → a ≠ b → (TJ9 a).2.1 ≠ (TJ9 b).2.1 := by decide +kernel
theorem tyJ9_ok : ∀ k, k < 0 → parseFieldDescriptor (TJ9 k).2.2.1 = some (tyJ9 k) := by decide +kernel
abbrev cJ9_floorDiv_f86c9 : ByteArray := prog_11_method_49_code
def yJ9_floorDiv_f86c9 : MethodName := ⟨RJ9, "floorDiv", "(JJ)J"⟩
abbrev cJ9_abs_0f7a4 : ByteArray := prog_11_method_59_code
def yJ9_abs_0f7a4 : MethodName := ⟨RJ9, "abs", "(I)I"⟩
abbrev cJ9_abs_067f4 : ByteArray := prog_11_method_61_code
def yJ9_abs_067f4 : MethodName := ⟨RJ9, "abs", "(J)J"⟩
abbrev cJ9_max_7cf53 : ByteArray := prog_11_method_65_code
def yJ9_max_7cf53 : MethodName := ⟨RJ9, "max", "(II)I"⟩
abbrev cJ9_min_7cf53 : ByteArray := prog_11_method_69_code
def yJ9_min_7cf53 : MethodName := ⟨RJ9, "min", "(II)I"⟩
def RJ0 : String := "java/lang/String"
def TJ0 : u_T := fun k => match k with
  | _ => ("", "", "", false)
def tyJ0 : Nat → FieldType := fun k => match k with
  | _ => .int
abbrev wsJ00 : List Cond := u_ws RJ0 TJ0 0
theorem nmJ0 : ∀ a, a < 0 → ∀ b, b < 0 → a ≠ b → (TJ0 a).2.1 ≠ (TJ0 b).2.1 := by decide +kernel
theorem tyJ0_ok : ∀ k, k < 0 → parseFieldDescriptor (TJ0 k).2.2.1 = some (tyJ0 k) := by decide +kernel
def RL : String := "CalibratoryLaw"
abbrev cL_tell : ByteArray := method_3_code
def yL_tell : MethodName := ⟨RL, "tell", "(LCalibratory;IIII[J)I"⟩
abbrev cL_refer : ByteArray := method_4_code
def yL_refer : MethodName := ⟨RL, "refer", "(LCalibratory;II[J)I"⟩
abbrev cL_pass : ByteArray := method_5_code
def yL_pass : MethodName := ⟨RL, "pass", "(LCalibratory;I[J)I"⟩
abbrev cL_calibrate : ByteArray := method_6_code
def yL_calibrate : MethodName := ⟨RL, "calibrate", "(LCalibratory;III[J)I"⟩
abbrev cL_measure : ByteArray := method_7_code
def yL_measure : MethodName := ⟨RL, "measure", "(LCalibratory;I[J)I"⟩
abbrev cL_intervalOf : ByteArray := method_8_code
def yL_intervalOf : MethodName := ⟨RL, "intervalOf", "(LCalibratory;I[J)I"⟩
abbrev cL_dueOf : ByteArray := method_9_code
def yL_dueOf : MethodName := ⟨RL, "dueOf", "(LCalibratory;I[J)I"⟩
abbrev cL_isSuspect : ByteArray := method_10_code
def yL_isSuspect : MethodName := ⟨RL, "isSuspect", "(LCalibratory;I[J)I"⟩
abbrev cL_distrusted : ByteArray := method_11_code
def yL_distrusted : MethodName := ⟨RL, "distrusted", "(LCalibratory;I[J)I"⟩
abbrev cL_chain : ByteArray := method_12_code
def yL_chain : MethodName := ⟨RL, "chain", "(LCalibratory;I[J)I"⟩
abbrev cL_failures : ByteArray := method_13_code
def yL_failures : MethodName := ⟨RL, "failures", "(LCalibratory;I[J)I"⟩
abbrev cL_slope : ByteArray := method_14_code
def yL_slope : MethodName := ⟨RL, "slope", "(LCalibratory;I[D)I"⟩
abbrev cL_expected : ByteArray := method_15_code
def yL_expected : MethodName := ⟨RL, "expected", "(LCalibratory;II[J)I"⟩
abbrev cL_driftsOut : ByteArray := method_16_code
def yL_driftsOut : MethodName := ⟨RL, "driftsOut", "(LCalibratory;I[J)I"⟩
abbrev cL_uncertainty : ByteArray := method_17_code
def yL_uncertainty : MethodName := ⟨RL, "uncertainty", "(LCalibratory;I[J)I"⟩
abbrev cL_limit : ByteArray := method_18_code
def yL_limit : MethodName := ⟨RL, "limit", "(LCalibratory;I[J)I"⟩
abbrev cL_isCalledBack : ByteArray := method_19_code
def yL_isCalledBack : MethodName := ⟨RL, "isCalledBack", "(LCalibratory;I[J)I"⟩
abbrev cL_atStake : ByteArray := method_20_code
def yL_atStake : MethodName := ⟨RL, "atStake", "(LCalibratory;I[J)I"⟩
abbrev cL_benchDay : ByteArray := method_21_code
def yL_benchDay : MethodName := ⟨RL, "benchDay", "(LCalibratory;II[J)I"⟩
abbrev cL_late : ByteArray := method_22_code
def yL_late : MethodName := ⟨RL, "late", "(LCalibratory;I[J)I"⟩
abbrev cL_law : ByteArray := code
def yL_law : MethodName := ⟨RL, "law", "([I)Z"⟩
abbrev vwCl : List vw_C := [(RX0, TX0, 10), (RX1, TX1, 9), (RX2, TX2, 3), (RX3, TX3, 9), (RX4, TX4, 22)]
end
section
theorem dX0_init_0 : decode cX0_init 0 = .ok (.aload_n 0, 1) := by decide +kernel
theorem dX0_init_1 : decode cX0_init 1 = .ok (.invokespecial 3, 3) := by decide +kernel
theorem dX0_init_4 : decode cX0_init 4 = .ok (.aload_n 0, 1) := by decide +kernel
theorem dX0_init_5 : decode cX0_init 5 = .ok (.iload_n 1, 1) := by decide +kernel
theorem dX0_init_6 : decode cX0_init 6 = .ok (.putfield 9, 3) := by decide +kernel
theorem dX0_init_9 : decode cX0_init 9 = .ok (.aload_n 0, 1) := by decide +kernel
theorem dX0_init_10 : decode cX0_init 10 = .ok (.iload_n 2, 1) := by decide +kernel
theorem dX0_init_11 : decode cX0_init 11 = .ok (.putfield 15, 3) := by decide +kernel
theorem dX0_init_14 : decode cX0_init 14 = .ok (.aload_n 0, 1) := by decide +kernel
theorem dX0_init_15 : decode cX0_init 15 = .ok (.iload_n 3, 1) := by decide +kernel
theorem dX0_init_16 : decode cX0_init 16 = .ok (.putfield 18, 3) := by decide +kernel
theorem dX0_init_19 : decode cX0_init 19 = .ok (.aload_n 0, 1) := by decide +kernel
theorem dX0_init_20 : decode cX0_init 20 = .ok (.aload 4, 2) := by decide +kernel
theorem dX0_init_22 : decode cX0_init 22 = .ok (.putfield 21, 3) := by decide +kernel
theorem dX0_init_25 : decode cX0_init 25 = .ok (.aload_n 0, 1) := by decide +kernel
theorem dX0_init_26 : decode cX0_init 26 = .ok (.aload 5, 2) := by decide +kernel
theorem dX0_init_28 : decode cX0_init 28 = .ok (.putfield 25, 3) := by decide +kernel
theorem dX0_init_31 : decode cX0_init 31 = .ok (.aload_n 0, 1) := by decide +kernel
theorem dX0_init_32 : decode cX0_init 32 = .ok (.ldc 28, 2) := by decide +kernel
theorem dX0_init_34 : decode cX0_init 34 = .ok (.putfield 29, 3) := by decide +kernel
theorem dX0_init_37 : decode cX0_init 37 = .ok (.return_, 1) := by decide +kernel
theorem dX1_init_0 : decode cX1_init 0 = .ok (.aload_n 0, 1) := by decide +kernel
theorem dX1_init_1 : decode cX1_init 1 = .ok (.invokespecial 1, 3) := by decide +kernel
theorem dX1_init_4 : decode cX1_init 4 = .ok (.aload_n 0, 1) := by decide +kernel
theorem dX1_init_5 : decode cX1_init 5 = .ok (.iload_n 1, 1) := by decide +kernel
theorem dX1_init_6 : decode cX1_init 6 = .ok (.putfield 7, 3) := by decide +kernel
theorem dX1_init_9 : decode cX1_init 9 = .ok (.aload_n 0, 1) := by decide +kernel
theorem dX1_init_10 : decode cX1_init 10 = .ok (.iload_n 2, 1) := by decide +kernel
theorem dX1_init_11 : decode cX1_init 11 = .ok (.putfield 13, 3) := by decide +kernel
theorem dX1_init_14 : decode cX1_init 14 = .ok (.aload_n 0, 1) := by decide +kernel
theorem dX1_init_15 : decode cX1_init 15 = .ok (.iload_n 3, 1) := by decide +kernel
theorem dX1_init_16 : decode cX1_init 16 = .ok (.putfield 16, 3) := by decide +kernel
theorem dX1_init_19 : decode cX1_init 19 = .ok (.aload_n 0, 1) := by decide +kernel
theorem dX1_init_20 : decode cX1_init 20 = .ok (.iload 4, 2) := by decide +kernel
theorem dX1_init_22 : decode cX1_init 22 = .ok (.putfield 19, 3) := by decide +kernel
theorem dX1_init_25 : decode cX1_init 25 = .ok (.return_, 1) := by decide +kernel
theorem dX2_init_0 : decode cX2_init 0 = .ok (.aload_n 0, 1) := by decide +kernel
theorem dX2_init_1 : decode cX2_init 1 = .ok (.invokespecial 1, 3) := by decide +kernel
theorem dX2_init_4 : decode cX2_init 4 = .ok (.aload_n 0, 1) := by decide +kernel
theorem dX2_init_5 : decode cX2_init 5 = .ok (.iload_n 1, 1) := by decide +kernel
theorem dX2_init_6 : decode cX2_init 6 = .ok (.putfield 7, 3) := by decide +kernel
theorem dX2_init_9 : decode cX2_init 9 = .ok (.aload_n 0, 1) := by decide +kernel
theorem dX2_init_10 : decode cX2_init 10 = .ok (.aload_n 2, 1) := by decide +kernel
theorem dX2_init_11 : decode cX2_init 11 = .ok (.putfield 13, 3) := by decide +kernel
theorem dX2_init_14 : decode cX2_init 14 = .ok (.return_, 1) := by decide +kernel
theorem dX3_init_0 : decode cX3_init 0 = .ok (.aload_n 0, 1) := by decide +kernel
theorem dX3_init_1 : decode cX3_init 1 = .ok (.invokespecial 1, 3) := by decide +kernel
theorem dX3_init_4 : decode cX3_init 4 = .ok (.aload_n 0, 1) := by decide +kernel
theorem dX3_init_5 : decode cX3_init 5 = .ok (.bipush 12, 2) := by decide +kernel
theorem dX3_init_7 : decode cX3_init 7 = .ok (.anewarray 9, 3) := by decide +kernel
theorem dX3_init_10 : decode cX3_init 10 = .ok (.putfield 11, 3) := by decide +kernel
theorem dX3_init_13 : decode cX3_init 13 = .ok (.aload_n 0, 1) := by decide +kernel
theorem dX3_init_14 : decode cX3_init 14 = .ok (.sipush 200, 3) := by decide +kernel
theorem dX3_init_17 : decode cX3_init 17 = .ok (.anewarray 15, 3) := by decide +kernel
theorem dX3_init_20 : decode cX3_init 20 = .ok (.putfield 17, 3) := by decide +kernel
theorem dX3_init_23 : decode cX3_init 23 = .ok (.aload_n 0, 1) := by decide +kernel
theorem dX3_init_24 : decode cX3_init 24 = .ok (.sipush 512, 3) := by decide +kernel
theorem dX3_init_27 : decode cX3_init 27 = .ok (.anewarray 21, 3) := by decide +kernel
theorem dX3_init_30 : decode cX3_init 30 = .ok (.putfield 23, 3) := by decide +kernel
theorem dX3_init_33 : decode cX3_init 33 = .ok (.return_, 1) := by decide +kernel
theorem dX3_tell_0 : decode cX3_tell 0 = .ok (.aload_n 0, 1) := by decide +kernel
theorem dX3_tell_1 : decode cX3_tell 1 = .ok (.iload_n 1, 1) := by decide +kernel
theorem dX3_tell_2 : decode cX3_tell 2 = .ok (.invokevirtual 27, 3) := by decide +kernel
theorem dX3_tell_5 : decode cX3_tell 5 = .ok (.astore 5, 2) := by decide +kernel
theorem dX3_tell_7 : decode cX3_tell 7 = .ok (.iload_n 2, 1) := by decide +kernel
theorem dX3_tell_8 : decode cX3_tell 8 = .ok (.iconst 1, 1) := by decide +kernel
theorem dX3_tell_9 : decode cX3_tell 9 = .ok (.if_icmp .lt 35, 3) := by decide +kernel
theorem dX3_tell_12 : decode cX3_tell 12 = .ok (.iload_n 2, 1) := by decide +kernel
theorem dX3_tell_13 : decode cX3_tell 13 = .ok (.sipush 9999, 3) := by decide +kernel
theorem dX3_tell_16 : decode cX3_tell 16 = .ok (.if_icmp .gt 28, 3) := by decide +kernel
theorem dX3_tell_19 : decode cX3_tell 19 = .ok (.iload_n 3, 1) := by decide +kernel
theorem dX3_tell_20 : decode cX3_tell 20 = .ok (.ifCond .lt 24, 3) := by decide +kernel
theorem dX3_tell_23 : decode cX3_tell 23 = .ok (.iload_n 3, 1) := by decide +kernel
theorem dX3_tell_24 : decode cX3_tell 24 = .ok (.sipush 999, 3) := by decide +kernel
theorem dX3_tell_27 : decode cX3_tell 27 = .ok (.if_icmp .gt 17, 3) := by decide +kernel
theorem dX3_tell_30 : decode cX3_tell 30 = .ok (.iload 4, 2) := by decide +kernel
theorem dX3_tell_32 : decode cX3_tell 32 = .ok (.iconst 1, 1) := by decide +kernel
theorem dX3_tell_33 : decode cX3_tell 33 = .ok (.if_icmp .lt 11, 3) := by decide +kernel
theorem dX3_tell_36 : decode cX3_tell 36 = .ok (.iload 4, 2) := by decide +kernel
theorem dX3_tell_38 : decode cX3_tell 38 = .ok (.sipush 999, 3) := by decide +kernel
theorem dX3_tell_41 : decode cX3_tell 41 = .ok (.if_icmp .le 13, 3) := by decide +kernel
theorem dX3_tell_44 : decode cX3_tell 44 = .ok (.new 31, 3) := by decide +kernel
theorem dX3_tell_47 : decode cX3_tell 47 = .ok (.dup, 1) := by decide +kernel
theorem dX3_tell_48 : decode cX3_tell 48 = .ok (.ldc 33, 2) := by decide +kernel
theorem dX3_tell_50 : decode cX3_tell 50 = .ok (.invokespecial 35, 3) := by decide +kernel
theorem dX3_tell_53 : decode cX3_tell 53 = .ok (.athrow, 1) := by decide +kernel
theorem dX3_tell_54 : decode cX3_tell 54 = .ok (.aload_n 0, 1) := by decide +kernel
theorem dX3_tell_55 : decode cX3_tell 55 = .ok (.getfield 38, 3) := by decide +kernel
theorem dX3_tell_58 : decode cX3_tell 58 = .ok (.istore 6, 2) := by decide +kernel
theorem dX3_tell_60 : decode cX3_tell 60 = .ok (.iload 6, 2) := by decide +kernel
theorem dX3_tell_62 : decode cX3_tell 62 = .ok (.ifCond .lt 13, 3) := by decide +kernel
theorem dX3_tell_65 : decode cX3_tell 65 = .ok (.iload 6, 2) := by decide +kernel
theorem dX3_tell_67 : decode cX3_tell 67 = .ok (.aload_n 0, 1) := by decide +kernel
theorem dX3_tell_68 : decode cX3_tell 68 = .ok (.getfield 11, 3) := by decide +kernel
theorem dX3_tell_71 : decode cX3_tell 71 = .ok (.arraylength, 1) := by decide +kernel
theorem dX3_tell_72 : decode cX3_tell 72 = .ok (.if_icmp .lt 13, 3) := by decide +kernel
theorem dX3_tell_75 : decode cX3_tell 75 = .ok (.new 42, 3) := by decide +kernel
theorem dX3_tell_78 : decode cX3_tell 78 = .ok (.dup, 1) := by decide +kernel
theorem dX3_tell_79 : decode cX3_tell 79 = .ok (.ldc 44, 2) := by decide +kernel
theorem dX3_tell_81 : decode cX3_tell 81 = .ok (.invokespecial 46, 3) := by decide +kernel
theorem dX3_tell_84 : decode cX3_tell 84 = .ok (.athrow, 1) := by decide +kernel
theorem dX3_tell_85 : decode cX3_tell 85 = .ok (.new 9, 3) := by decide +kernel
theorem dX3_tell_88 : decode cX3_tell 88 = .ok (.dup, 1) := by decide +kernel
theorem dX3_tell_89 : decode cX3_tell 89 = .ok (.iload 6, 2) := by decide +kernel
theorem dX3_tell_91 : decode cX3_tell 91 = .ok (.iload_n 2, 1) := by decide +kernel
theorem dX3_tell_92 : decode cX3_tell 92 = .ok (.iload_n 3, 1) := by decide +kernel
theorem dX3_tell_93 : decode cX3_tell 93 = .ok (.iload 4, 2) := by decide +kernel
theorem dX3_tell_95 : decode cX3_tell 95 = .ok (.invokespecial 47, 3) := by decide +kernel
theorem dX3_tell_98 : decode cX3_tell 98 = .ok (.astore 7, 2) := by decide +kernel
theorem dX3_tell_100 : decode cX3_tell 100 = .ok (.aload 7, 2) := by decide +kernel
theorem dX3_tell_102 : decode cX3_tell 102 = .ok (.aload 5, 2) := by decide +kernel
theorem dX3_tell_104 : decode cX3_tell 104 = .ok (.putfield 50, 3) := by decide +kernel
theorem dX3_tell_107 : decode cX3_tell 107 = .ok (.aload_n 0, 1) := by decide +kernel
theorem dX3_tell_108 : decode cX3_tell 108 = .ok (.getfield 11, 3) := by decide +kernel
theorem dX3_tell_111 : decode cX3_tell 111 = .ok (.iload 6, 2) := by decide +kernel
theorem dX3_tell_113 : decode cX3_tell 113 = .ok (.aload 7, 2) := by decide +kernel
theorem dX3_tell_115 : decode cX3_tell 115 = .ok (.aastore, 1) := by decide +kernel
theorem dX3_tell_116 : decode cX3_tell 116 = .ok (.aload_n 0, 1) := by decide +kernel
theorem dX3_tell_117 : decode cX3_tell 117 = .ok (.iload 6, 2) := by decide +kernel
theorem dX3_tell_119 : decode cX3_tell 119 = .ok (.iconst 1, 1) := by decide +kernel
theorem dX3_tell_120 : decode cX3_tell 120 = .ok (.iadd, 1) := by decide +kernel
theorem dX3_tell_121 : decode cX3_tell 121 = .ok (.putfield 38, 3) := by decide +kernel
theorem dX3_tell_124 : decode cX3_tell 124 = .ok (.iload 6, 2) := by decide +kernel
theorem dX3_tell_126 : decode cX3_tell 126 = .ok (.ireturn, 1) := by decide +kernel
theorem dX3_refer_0 : decode cX3_refer 0 = .ok (.aload_n 0, 1) := by decide +kernel
theorem dX3_refer_1 : decode cX3_refer 1 = .ok (.iload_n 1, 1) := by decide +kernel
theorem dX3_refer_2 : decode cX3_refer 2 = .ok (.invokevirtual 54, 3) := by decide +kernel
theorem dX3_refer_5 : decode cX3_refer 5 = .ok (.astore_n 3, 1) := by decide +kernel
theorem dX3_refer_6 : decode cX3_refer 6 = .ok (.aload_n 0, 1) := by decide +kernel
theorem dX3_refer_7 : decode cX3_refer 7 = .ok (.iload_n 2, 1) := by decide +kernel
theorem dX3_refer_8 : decode cX3_refer 8 = .ok (.invokevirtual 27, 3) := by decide +kernel
theorem dX3_refer_11 : decode cX3_refer 11 = .ok (.astore 4, 2) := by decide +kernel
theorem dX3_refer_13 : decode cX3_refer 13 = .ok (.aload_n 3, 1) := by decide +kernel
theorem dX3_refer_14 : decode cX3_refer 14 = .ok (.aload 4, 2) := by decide +kernel
theorem dX3_refer_16 : decode cX3_refer 16 = .ok (.invokestatic 57, 3) := by decide +kernel
theorem dX3_refer_19 : decode cX3_refer 19 = .ok (.ifCond .eq 13, 3) := by decide +kernel
theorem dX3_refer_22 : decode cX3_refer 22 = .ok (.new 42, 3) := by decide +kernel
theorem dX3_refer_25 : decode cX3_refer 25 = .ok (.dup, 1) := by decide +kernel
theorem dX3_refer_26 : decode cX3_refer 26 = .ok (.ldc 61, 2) := by decide +kernel
theorem dX3_refer_28 : decode cX3_refer 28 = .ok (.invokespecial 46, 3) := by decide +kernel
theorem dX3_refer_31 : decode cX3_refer 31 = .ok (.athrow, 1) := by decide +kernel
theorem dX3_refer_32 : decode cX3_refer 32 = .ok (.aload_n 3, 1) := by decide +kernel
theorem dX3_refer_33 : decode cX3_refer 33 = .ok (.getfield 50, 3) := by decide +kernel
theorem dX3_refer_36 : decode cX3_refer 36 = .ok (.invokestatic 63, 3) := by decide +kernel
theorem dX3_refer_39 : decode cX3_refer 39 = .ok (.istore 5, 2) := by decide +kernel
theorem dX3_refer_41 : decode cX3_refer 41 = .ok (.aload_n 3, 1) := by decide +kernel
theorem dX3_refer_42 : decode cX3_refer 42 = .ok (.aload 4, 2) := by decide +kernel
theorem dX3_refer_44 : decode cX3_refer 44 = .ok (.putfield 50, 3) := by decide +kernel
theorem dX3_refer_47 : decode cX3_refer 47 = .ok (.iload 5, 2) := by decide +kernel
theorem dX3_refer_49 : decode cX3_refer 49 = .ok (.ireturn, 1) := by decide +kernel
theorem dX3_pass_0 : decode cX3_pass 0 = .ok (.iload_n 1, 1) := by decide +kernel
theorem dX3_pass_1 : decode cX3_pass 1 = .ok (.iconst 1, 1) := by decide +kernel
theorem dX3_pass_2 : decode cX3_pass 2 = .ok (.if_icmp .lt 10, 3) := by decide +kernel
theorem dX3_pass_5 : decode cX3_pass 5 = .ok (.iload_n 1, 1) := by decide +kernel
theorem dX3_pass_6 : decode cX3_pass 6 = .ok (.sipush 999, 3) := by decide +kernel
theorem dX3_pass_9 : decode cX3_pass 9 = .ok (.if_icmp .le 13, 3) := by decide +kernel
theorem dX3_pass_12 : decode cX3_pass 12 = .ok (.new 31, 3) := by decide +kernel
theorem dX3_pass_15 : decode cX3_pass 15 = .ok (.dup, 1) := by decide +kernel
theorem dX3_pass_16 : decode cX3_pass 16 = .ok (.ldc 67, 2) := by decide +kernel
theorem dX3_pass_18 : decode cX3_pass 18 = .ok (.invokespecial 35, 3) := by decide +kernel
theorem dX3_pass_21 : decode cX3_pass 21 = .ok (.athrow, 1) := by decide +kernel
theorem dX3_pass_22 : decode cX3_pass 22 = .ok (.aload_n 0, 1) := by decide +kernel
theorem dX3_pass_23 : decode cX3_pass 23 = .ok (.dup, 1) := by decide +kernel
theorem dX3_pass_24 : decode cX3_pass 24 = .ok (.getfield 69, 3) := by decide +kernel
theorem dX3_pass_27 : decode cX3_pass 27 = .ok (.iload_n 1, 1) := by decide +kernel
theorem dX3_pass_28 : decode cX3_pass 28 = .ok (.iadd, 1) := by decide +kernel
theorem dX3_pass_29 : decode cX3_pass 29 = .ok (.putfield 69, 3) := by decide +kernel
theorem dX3_pass_32 : decode cX3_pass 32 = .ok (.aload_n 0, 1) := by decide +kernel
theorem dX3_pass_33 : decode cX3_pass 33 = .ok (.getfield 69, 3) := by decide +kernel
theorem dX3_pass_36 : decode cX3_pass 36 = .ok (.ireturn, 1) := by decide +kernel
theorem dX3_today_0 : decode cX3_today 0 = .ok (.aload_n 0, 1) := by decide +kernel
theorem dX3_today_1 : decode cX3_today 1 = .ok (.getfield 69, 3) := by decide +kernel
theorem dX3_today_4 : decode cX3_today 4 = .ok (.ireturn, 1) := by decide +kernel
theorem dX3_instruments_0 : decode cX3_instruments 0 = .ok (.aload_n 0, 1) := by decide +kernel
theorem dX3_instruments_1 : decode cX3_instruments 1 = .ok (.getfield 38, 3) := by decide +kernel
theorem dX3_instruments_4 : decode cX3_instruments 4 = .ok (.ireturn, 1) := by decide +kernel
theorem dX3_known_0 : decode cX3_known 0 = .ok (.iload_n 1, 1) := by decide +kernel
theorem dX3_known_1 : decode cX3_known 1 = .ok (.ifCond .lt 12, 3) := by decide +kernel
theorem dX3_known_4 : decode cX3_known 4 = .ok (.iload_n 1, 1) := by decide +kernel
theorem dX3_known_5 : decode cX3_known 5 = .ok (.aload_n 0, 1) := by decide +kernel
theorem dX3_known_6 : decode cX3_known 6 = .ok (.getfield 11, 3) := by decide +kernel
theorem dX3_known_9 : decode cX3_known 9 = .ok (.arraylength, 1) := by decide +kernel
theorem dX3_known_10 : decode cX3_known 10 = .ok (.if_icmp .lt 13, 3) := by decide +kernel
theorem dX3_known_13 : decode cX3_known 13 = .ok (.new 72, 3) := by decide +kernel
theorem dX3_known_16 : decode cX3_known 16 = .ok (.dup, 1) := by decide +kernel
theorem dX3_known_17 : decode cX3_known 17 = .ok (.ldc 74, 2) := by decide +kernel
theorem dX3_known_19 : decode cX3_known 19 = .ok (.invokespecial 76, 3) := by decide +kernel
theorem dX3_known_22 : decode cX3_known 22 = .ok (.athrow, 1) := by decide +kernel
theorem dX3_known_23 : decode cX3_known 23 = .ok (.aload_n 0, 1) := by decide +kernel
theorem dX3_known_24 : decode cX3_known 24 = .ok (.getfield 11, 3) := by decide +kernel
theorem dX3_known_27 : decode cX3_known 27 = .ok (.iload_n 1, 1) := by decide +kernel
theorem dX3_known_28 : decode cX3_known 28 = .ok (.aaload, 1) := by decide +kernel
theorem dX3_known_29 : decode cX3_known 29 = .ok (.astore_n 2, 1) := by decide +kernel
theorem dX3_known_30 : decode cX3_known 30 = .ok (.aload_n 2, 1) := by decide +kernel
theorem dX3_known_31 : decode cX3_known 31 = .ok (.ifnonnull 13, 3) := by decide +kernel
theorem dX3_known_34 : decode cX3_known 34 = .ok (.new 72, 3) := by decide +kernel
theorem dX3_known_37 : decode cX3_known 37 = .ok (.dup, 1) := by decide +kernel
theorem dX3_known_38 : decode cX3_known 38 = .ok (.ldc 74, 2) := by decide +kernel
theorem dX3_known_40 : decode cX3_known 40 = .ok (.invokespecial 76, 3) := by decide +kernel
theorem dX3_known_43 : decode cX3_known 43 = .ok (.athrow, 1) := by decide +kernel
theorem dX3_known_44 : decode cX3_known 44 = .ok (.aload_n 2, 1) := by decide +kernel
theorem dX3_known_45 : decode cX3_known 45 = .ok (.areturn, 1) := by decide +kernel
theorem dX3_knownOrNone_0 : decode cX3_knownOrNone 0 = .ok (.iload_n 1, 1) := by decide +kernel
theorem dX3_knownOrNone_1 : decode cX3_knownOrNone 1 = .ok (.iconst (-1), 1) := by decide +kernel
theorem dX3_knownOrNone_2 : decode cX3_knownOrNone 2 = .ok (.if_icmp .ne 7, 3) := by decide +kernel
theorem dX3_knownOrNone_5 : decode cX3_knownOrNone 5 = .ok (.aconst_null, 1) := by decide +kernel
theorem dX3_knownOrNone_6 : decode cX3_knownOrNone 6 = .ok (.goto 8, 3) := by decide +kernel
theorem dX3_knownOrNone_9 : decode cX3_knownOrNone 9 = .ok (.aload_n 0, 1) := by decide +kernel
theorem dX3_knownOrNone_10 : decode cX3_knownOrNone 10 = .ok (.iload_n 1, 1) := by decide +kernel
theorem dX3_knownOrNone_11 : decode cX3_knownOrNone 11 = .ok (.invokevirtual 54, 3) := by decide +kernel
theorem dX3_knownOrNone_14 : decode cX3_knownOrNone 14 = .ok (.areturn, 1) := by decide +kernel
theorem dX3_numberOf_0 : decode cX3_numberOf 0 = .ok (.aload_n 0, 1) := by decide +kernel
theorem dX3_numberOf_1 : decode cX3_numberOf 1 = .ok (.ifnonnull 7, 3) := by decide +kernel
theorem dX3_numberOf_4 : decode cX3_numberOf 4 = .ok (.iconst (-1), 1) := by decide +kernel
theorem dX3_numberOf_5 : decode cX3_numberOf 5 = .ok (.goto 7, 3) := by decide +kernel
theorem dX3_numberOf_8 : decode cX3_numberOf 8 = .ok (.aload_n 0, 1) := by decide +kernel
theorem dX3_numberOf_9 : decode cX3_numberOf 9 = .ok (.getfield 77, 3) := by decide +kernel
theorem dX3_numberOf_12 : decode cX3_numberOf 12 = .ok (.ireturn, 1) := by decide +kernel
theorem dX3_isInChain_0 : decode cX3_isInChain 0 = .ok (.aload_n 1, 1) := by decide +kernel
theorem dX3_isInChain_1 : decode cX3_isInChain 1 = .ok (.astore_n 2, 1) := by decide +kernel
theorem dX3_isInChain_2 : decode cX3_isInChain 2 = .ok (.aload_n 2, 1) := by decide +kernel
theorem dX3_isInChain_3 : decode cX3_isInChain 3 = .ok (.ifnull 18, 3) := by decide +kernel
theorem dX3_isInChain_6 : decode cX3_isInChain 6 = .ok (.aload_n 2, 1) := by decide +kernel
theorem dX3_isInChain_7 : decode cX3_isInChain 7 = .ok (.aload_n 0, 1) := by decide +kernel
theorem dX3_isInChain_8 : decode cX3_isInChain 8 = .ok (.if_acmp .ne 5, 3) := by decide +kernel
theorem dX3_isInChain_11 : decode cX3_isInChain 11 = .ok (.iconst 1, 1) := by decide +kernel
theorem dX3_isInChain_12 : decode cX3_isInChain 12 = .ok (.ireturn, 1) := by decide +kernel
theorem dX3_isInChain_13 : decode cX3_isInChain 13 = .ok (.aload_n 2, 1) := by decide +kernel
theorem dX3_isInChain_14 : decode cX3_isInChain 14 = .ok (.getfield 50, 3) := by decide +kernel
theorem dX3_isInChain_17 : decode cX3_isInChain 17 = .ok (.astore_n 2, 1) := by decide +kernel
theorem dX3_isInChain_18 : decode cX3_isInChain 18 = .ok (.goto (-16), 3) := by decide +kernel
theorem dX3_isInChain_21 : decode cX3_isInChain 21 = .ok (.iconst 0, 1) := by decide +kernel
theorem dX3_isInChain_22 : decode cX3_isInChain 22 = .ok (.ireturn, 1) := by decide +kernel
theorem dX3_calibrate_0 : decode cX3_calibrate 0 = .ok (.aload_n 0, 1) := by decide +kernel
theorem dX3_calibrate_1 : decode cX3_calibrate 1 = .ok (.iload_n 1, 1) := by decide +kernel
theorem dX3_calibrate_2 : decode cX3_calibrate 2 = .ok (.invokevirtual 54, 3) := by decide +kernel
theorem dX3_calibrate_5 : decode cX3_calibrate 5 = .ok (.astore 4, 2) := by decide +kernel
theorem dX3_calibrate_7 : decode cX3_calibrate 7 = .ok (.iload_n 2, 1) := by decide +kernel
theorem dX3_calibrate_8 : decode cX3_calibrate 8 = .ok (.invokestatic 80, 3) := by decide +kernel
theorem dX3_calibrate_11 : decode cX3_calibrate 11 = .ok (.ifCond .ne 10, 3) := by decide +kernel
theorem dX3_calibrate_14 : decode cX3_calibrate 14 = .ok (.iload_n 3, 1) := by decide +kernel
theorem dX3_calibrate_15 : decode cX3_calibrate 15 = .ok (.invokestatic 80, 3) := by decide +kernel
theorem dX3_calibrate_18 : decode cX3_calibrate 18 = .ok (.ifCond .eq 13, 3) := by decide +kernel
theorem dX3_calibrate_21 : decode cX3_calibrate 21 = .ok (.new 31, 3) := by decide +kernel
theorem dX3_calibrate_24 : decode cX3_calibrate 24 = .ok (.dup, 1) := by decide +kernel
theorem dX3_calibrate_25 : decode cX3_calibrate 25 = .ok (.ldc 84, 2) := by decide +kernel
theorem dX3_calibrate_27 : decode cX3_calibrate 27 = .ok (.invokespecial 35, 3) := by decide +kernel
theorem dX3_calibrate_30 : decode cX3_calibrate 30 = .ok (.athrow, 1) := by decide +kernel
theorem dX3_calibrate_31 : decode cX3_calibrate 31 = .ok (.aload_n 0, 1) := by decide +kernel
theorem dX3_calibrate_32 : decode cX3_calibrate 32 = .ok (.aload 4, 2) := by decide +kernel
theorem dX3_calibrate_34 : decode cX3_calibrate 34 = .ok (.getfield 50, 3) := by decide +kernel
theorem dX3_calibrate_37 : decode cX3_calibrate 37 = .ok (.invokevirtual 86, 3) := by decide +kernel
theorem dX3_calibrate_40 : decode cX3_calibrate 40 = .ok (.ifnull 13, 3) := by decide +kernel
theorem dX3_calibrate_43 : decode cX3_calibrate 43 = .ok (.new 42, 3) := by decide +kernel
theorem dX3_calibrate_46 : decode cX3_calibrate 46 = .ok (.dup, 1) := by decide +kernel
theorem dX3_calibrate_47 : decode cX3_calibrate 47 = .ok (.ldc 90, 2) := by decide +kernel
theorem dX3_calibrate_49 : decode cX3_calibrate 49 = .ok (.invokespecial 46, 3) := by decide +kernel
theorem dX3_calibrate_52 : decode cX3_calibrate 52 = .ok (.athrow, 1) := by decide +kernel
theorem dX3_calibrate_53 : decode cX3_calibrate 53 = .ok (.aload_n 0, 1) := by decide +kernel
theorem dX3_calibrate_54 : decode cX3_calibrate 54 = .ok (.getfield 92, 3) := by decide +kernel
theorem dX3_calibrate_57 : decode cX3_calibrate 57 = .ok (.istore 5, 2) := by decide +kernel
theorem dX3_calibrate_59 : decode cX3_calibrate 59 = .ok (.iload 5, 2) := by decide +kernel
theorem dX3_calibrate_61 : decode cX3_calibrate 61 = .ok (.ifCond .lt 13, 3) := by decide +kernel
theorem dX3_calibrate_64 : decode cX3_calibrate 64 = .ok (.iload 5, 2) := by decide +kernel
theorem dX3_calibrate_66 : decode cX3_calibrate 66 = .ok (.aload_n 0, 1) := by decide +kernel
theorem dX3_calibrate_67 : decode cX3_calibrate 67 = .ok (.getfield 23, 3) := by decide +kernel
theorem dX3_calibrate_70 : decode cX3_calibrate 70 = .ok (.arraylength, 1) := by decide +kernel
theorem dX3_calibrate_71 : decode cX3_calibrate 71 = .ok (.if_icmp .lt 5, 3) := by decide +kernel
theorem dX3_calibrate_74 : decode cX3_calibrate 74 = .ok (.iconst 0, 1) := by decide +kernel
theorem dX3_calibrate_75 : decode cX3_calibrate 75 = .ok (.ireturn, 1) := by decide +kernel
theorem dX3_calibrate_76 : decode cX3_calibrate 76 = .ok (.aload 4, 2) := by decide +kernel
theorem dX3_calibrate_78 : decode cX3_calibrate 78 = .ok (.getfield 50, 3) := by decide +kernel
theorem dX3_calibrate_81 : decode cX3_calibrate 81 = .ok (.ifnonnull 7, 3) := by decide +kernel
theorem dX3_calibrate_84 : decode cX3_calibrate 84 = .ok (.aconst_null, 1) := by decide +kernel
theorem dX3_calibrate_85 : decode cX3_calibrate 85 = .ok (.goto 11, 3) := by decide +kernel
theorem dX3_calibrate_88 : decode cX3_calibrate 88 = .ok (.aload 4, 2) := by decide +kernel
theorem dX3_calibrate_90 : decode cX3_calibrate 90 = .ok (.getfield 50, 3) := by decide +kernel
theorem dX3_calibrate_93 : decode cX3_calibrate 93 = .ok (.getfield 95, 3) := by decide +kernel
theorem dX3_calibrate_96 : decode cX3_calibrate 96 = .ok (.astore 6, 2) := by decide +kernel
theorem dX3_calibrate_98 : decode cX3_calibrate 98 = .ok (.new 21, 3) := by decide +kernel
theorem dX3_calibrate_101 : decode cX3_calibrate 101 = .ok (.dup, 1) := by decide +kernel
theorem dX3_calibrate_102 : decode cX3_calibrate 102 = .ok (.aload_n 0, 1) := by decide +kernel
theorem dX3_calibrate_103 : decode cX3_calibrate 103 = .ok (.getfield 99, 3) := by decide +kernel
theorem dX3_calibrate_106 : decode cX3_calibrate 106 = .ok (.aload_n 0, 1) := by decide +kernel
theorem dX3_calibrate_107 : decode cX3_calibrate 107 = .ok (.getfield 69, 3) := by decide +kernel
theorem dX3_calibrate_110 : decode cX3_calibrate 110 = .ok (.iload_n 3, 1) := by decide +kernel
theorem dX3_calibrate_111 : decode cX3_calibrate 111 = .ok (.aload 4, 2) := by decide +kernel
theorem dX3_calibrate_113 : decode cX3_calibrate 113 = .ok (.getfield 95, 3) := by decide +kernel
theorem dX3_calibrate_116 : decode cX3_calibrate 116 = .ok (.aload 6, 2) := by decide +kernel
theorem dX3_calibrate_118 : decode cX3_calibrate 118 = .ok (.invokespecial 102, 3) := by decide +kernel
theorem dX3_calibrate_121 : decode cX3_calibrate 121 = .ok (.astore 7, 2) := by decide +kernel
theorem dX3_calibrate_123 : decode cX3_calibrate 123 = .ok (.aload 4, 2) := by decide +kernel
theorem dX3_calibrate_125 : decode cX3_calibrate 125 = .ok (.getfield 95, 3) := by decide +kernel
theorem dX3_calibrate_128 : decode cX3_calibrate 128 = .ok (.ifnonnull 7, 3) := by decide +kernel
theorem dX3_calibrate_131 : decode cX3_calibrate 131 = .ok (.iconst 0, 1) := by decide +kernel
theorem dX3_calibrate_132 : decode cX3_calibrate 132 = .ok (.goto 17, 3) := by decide +kernel
theorem dX3_calibrate_135 : decode cX3_calibrate 135 = .ok (.aload_n 0, 1) := by decide +kernel
theorem dX3_calibrate_136 : decode cX3_calibrate 136 = .ok (.aload 4, 2) := by decide +kernel
theorem dX3_calibrate_138 : decode cX3_calibrate 138 = .ok (.aload 4, 2) := by decide +kernel
theorem dX3_calibrate_140 : decode cX3_calibrate 140 = .ok (.getfield 95, 3) := by decide +kernel
theorem dX3_calibrate_143 : decode cX3_calibrate 143 = .ok (.aload 7, 2) := by decide +kernel
theorem dX3_calibrate_145 : decode cX3_calibrate 145 = .ok (.iload_n 2, 1) := by decide +kernel
theorem dX3_calibrate_146 : decode cX3_calibrate 146 = .ok (.invokevirtual 105, 3) := by decide +kernel
theorem dX3_calibrate_149 : decode cX3_calibrate 149 = .ok (.istore 8, 2) := by decide +kernel
theorem dX3_calibrate_151 : decode cX3_calibrate 151 = .ok (.aload 4, 2) := by decide +kernel
theorem dX3_calibrate_153 : decode cX3_calibrate 153 = .ok (.aload 7, 2) := by decide +kernel
theorem dX3_calibrate_155 : decode cX3_calibrate 155 = .ok (.putfield 95, 3) := by decide +kernel
theorem dX3_calibrate_158 : decode cX3_calibrate 158 = .ok (.aload 4, 2) := by decide +kernel
theorem dX3_calibrate_160 : decode cX3_calibrate 160 = .ok (.invokestatic 109, 3) := by decide +kernel
theorem dX3_calibrate_163 : decode cX3_calibrate 163 = .ok (.aload_n 0, 1) := by decide +kernel
theorem dX3_calibrate_164 : decode cX3_calibrate 164 = .ok (.getfield 23, 3) := by decide +kernel
theorem dX3_calibrate_167 : decode cX3_calibrate 167 = .ok (.iload 5, 2) := by decide +kernel
theorem dX3_calibrate_169 : decode cX3_calibrate 169 = .ok (.aload 7, 2) := by decide +kernel
theorem dX3_calibrate_171 : decode cX3_calibrate 171 = .ok (.aastore, 1) := by decide +kernel
theorem dX3_calibrate_172 : decode cX3_calibrate 172 = .ok (.aload_n 0, 1) := by decide +kernel
theorem dX3_calibrate_173 : decode cX3_calibrate 173 = .ok (.iload 5, 2) := by decide +kernel
theorem dX3_calibrate_175 : decode cX3_calibrate 175 = .ok (.iconst 1, 1) := by decide +kernel
theorem dX3_calibrate_176 : decode cX3_calibrate 176 = .ok (.iadd, 1) := by decide +kernel
theorem dX3_calibrate_177 : decode cX3_calibrate 177 = .ok (.putfield 92, 3) := by decide +kernel
theorem dX3_calibrate_180 : decode cX3_calibrate 180 = .ok (.aload_n 0, 1) := by decide +kernel
theorem dX3_calibrate_181 : decode cX3_calibrate 181 = .ok (.dup, 1) := by decide +kernel
theorem dX3_calibrate_182 : decode cX3_calibrate 182 = .ok (.getfield 99, 3) := by decide +kernel
theorem dX3_calibrate_185 : decode cX3_calibrate 185 = .ok (.iconst 1, 1) := by decide +kernel
theorem dX3_calibrate_186 : decode cX3_calibrate 186 = .ok (.iadd, 1) := by decide +kernel
theorem dX3_calibrate_187 : decode cX3_calibrate 187 = .ok (.putfield 99, 3) := by decide +kernel
theorem dX3_calibrate_190 : decode cX3_calibrate 190 = .ok (.iload 8, 2) := by decide +kernel
theorem dX3_calibrate_192 : decode cX3_calibrate 192 = .ok (.ireturn, 1) := by decide +kernel
theorem dX3_measure_0 : decode cX3_measure 0 = .ok (.aload_n 0, 1) := by decide +kernel
theorem dX3_measure_1 : decode cX3_measure 1 = .ok (.iload_n 1, 1) := by decide +kernel
theorem dX3_measure_2 : decode cX3_measure 2 = .ok (.invokevirtual 54, 3) := by decide +kernel
theorem dX3_measure_5 : decode cX3_measure 5 = .ok (.astore_n 2, 1) := by decide +kernel
theorem dX3_measure_6 : decode cX3_measure 6 = .ok (.aload_n 0, 1) := by decide +kernel
theorem dX3_measure_7 : decode cX3_measure 7 = .ok (.getfield 113, 3) := by decide +kernel
theorem dX3_measure_10 : decode cX3_measure 10 = .ok (.istore_n 3, 1) := by decide +kernel
theorem dX3_measure_11 : decode cX3_measure 11 = .ok (.aload_n 0, 1) := by decide +kernel
theorem dX3_measure_12 : decode cX3_measure 12 = .ok (.aload_n 2, 1) := by decide +kernel
theorem dX3_measure_13 : decode cX3_measure 13 = .ok (.invokevirtual 86, 3) := by decide +kernel
theorem dX3_measure_16 : decode cX3_measure 16 = .ok (.ifnonnull 16, 3) := by decide +kernel
theorem dX3_measure_19 : decode cX3_measure 19 = .ok (.iload_n 3, 1) := by decide +kernel
theorem dX3_measure_20 : decode cX3_measure 20 = .ok (.ifCond .lt 12, 3) := by decide +kernel
theorem dX3_measure_23 : decode cX3_measure 23 = .ok (.iload_n 3, 1) := by decide +kernel
theorem dX3_measure_24 : decode cX3_measure 24 = .ok (.aload_n 0, 1) := by decide +kernel
theorem dX3_measure_25 : decode cX3_measure 25 = .ok (.getfield 17, 3) := by decide +kernel
theorem dX3_measure_28 : decode cX3_measure 28 = .ok (.arraylength, 1) := by decide +kernel
theorem dX3_measure_29 : decode cX3_measure 29 = .ok (.if_icmp .lt 13, 3) := by decide +kernel
theorem dX3_measure_32 : decode cX3_measure 32 = .ok (.new 42, 3) := by decide +kernel
theorem dX3_measure_35 : decode cX3_measure 35 = .ok (.dup, 1) := by decide +kernel
theorem dX3_measure_36 : decode cX3_measure 36 = .ok (.ldc 116, 2) := by decide +kernel
theorem dX3_measure_38 : decode cX3_measure 38 = .ok (.invokespecial 46, 3) := by decide +kernel
theorem dX3_measure_41 : decode cX3_measure 41 = .ok (.athrow, 1) := by decide +kernel
theorem dX3_measure_42 : decode cX3_measure 42 = .ok (.aload_n 0, 1) := by decide +kernel
theorem dX3_measure_43 : decode cX3_measure 43 = .ok (.getfield 17, 3) := by decide +kernel
theorem dX3_measure_46 : decode cX3_measure 46 = .ok (.iload_n 3, 1) := by decide +kernel
theorem dX3_measure_47 : decode cX3_measure 47 = .ok (.new 15, 3) := by decide +kernel
theorem dX3_measure_50 : decode cX3_measure 50 = .ok (.dup, 1) := by decide +kernel
theorem dX3_measure_51 : decode cX3_measure 51 = .ok (.aload_n 0, 1) := by decide +kernel
theorem dX3_measure_52 : decode cX3_measure 52 = .ok (.getfield 99, 3) := by decide +kernel
theorem dX3_measure_55 : decode cX3_measure 55 = .ok (.aload_n 2, 1) := by decide +kernel
theorem dX3_measure_56 : decode cX3_measure 56 = .ok (.getfield 95, 3) := by decide +kernel
theorem dX3_measure_59 : decode cX3_measure 59 = .ok (.invokespecial 118, 3) := by decide +kernel
theorem dX3_measure_62 : decode cX3_measure 62 = .ok (.aastore, 1) := by decide +kernel
theorem dX3_measure_63 : decode cX3_measure 63 = .ok (.aload_n 0, 1) := by decide +kernel
theorem dX3_measure_64 : decode cX3_measure 64 = .ok (.iload_n 3, 1) := by decide +kernel
theorem dX3_measure_65 : decode cX3_measure 65 = .ok (.iconst 1, 1) := by decide +kernel
theorem dX3_measure_66 : decode cX3_measure 66 = .ok (.iadd, 1) := by decide +kernel
theorem dX3_measure_67 : decode cX3_measure 67 = .ok (.putfield 113, 3) := by decide +kernel
theorem dX3_measure_70 : decode cX3_measure 70 = .ok (.aload_n 0, 1) := by decide +kernel
theorem dX3_measure_71 : decode cX3_measure 71 = .ok (.dup, 1) := by decide +kernel
theorem dX3_measure_72 : decode cX3_measure 72 = .ok (.getfield 99, 3) := by decide +kernel
theorem dX3_measure_75 : decode cX3_measure 75 = .ok (.iconst 1, 1) := by decide +kernel
theorem dX3_measure_76 : decode cX3_measure 76 = .ok (.iadd, 1) := by decide +kernel
theorem dX3_measure_77 : decode cX3_measure 77 = .ok (.putfield 99, 3) := by decide +kernel
theorem dX3_measure_80 : decode cX3_measure 80 = .ok (.iload_n 3, 1) := by decide +kernel
theorem dX3_measure_81 : decode cX3_measure 81 = .ok (.ireturn, 1) := by decide +kernel
theorem dX3_isNoError_0 : decode cX3_isNoError 0 = .ok (.iload_n 0, 1) := by decide +kernel
theorem dX3_isNoError_1 : decode cX3_isNoError 1 = .ok (.ldc 121, 2) := by decide +kernel
theorem dX3_isNoError_3 : decode cX3_isNoError 3 = .ok (.if_icmp .lt 9, 3) := by decide +kernel
theorem dX3_isNoError_6 : decode cX3_isNoError 6 = .ok (.iload_n 0, 1) := by decide +kernel
theorem dX3_isNoError_7 : decode cX3_isNoError 7 = .ok (.ldc 122, 2) := by decide +kernel
theorem dX3_isNoError_9 : decode cX3_isNoError 9 = .ok (.if_icmp .le 7, 3) := by decide +kernel
theorem dX3_isNoError_12 : decode cX3_isNoError 12 = .ok (.iconst 1, 1) := by decide +kernel
theorem dX3_isNoError_13 : decode cX3_isNoError 13 = .ok (.goto 4, 3) := by decide +kernel
theorem dX3_isNoError_16 : decode cX3_isNoError 16 = .ok (.iconst 0, 1) := by decide +kernel
theorem dX3_isNoError_17 : decode cX3_isNoError 17 = .ok (.ireturn, 1) := by decide +kernel
theorem dX3_settle_0 : decode cX3_settle 0 = .ok (.iload 4, 2) := by decide +kernel
theorem dX3_settle_2 : decode cX3_settle 2 = .ok (.invokestatic 123, 3) := by decide +kernel
theorem dX3_settle_5 : decode cX3_settle 5 = .ok (.istore 5, 2) := by decide +kernel
theorem dX3_settle_7 : decode cX3_settle 7 = .ok (.iconst 0, 1) := by decide +kernel
theorem dX3_settle_8 : decode cX3_settle 8 = .ok (.istore 6, 2) := by decide +kernel
theorem dX3_settle_10 : decode cX3_settle 10 = .ok (.iload 5, 2) := by decide +kernel
theorem dX3_settle_12 : decode cX3_settle 12 = .ok (.aload_n 1, 1) := by decide +kernel
theorem dX3_settle_13 : decode cX3_settle 13 = .ok (.getfield 129, 3) := by decide +kernel
theorem dX3_settle_16 : decode cX3_settle 16 = .ok (.if_icmp .le 25, 3) := by decide +kernel
theorem dX3_settle_19 : decode cX3_settle 19 = .ok (.aload_n 3, 1) := by decide +kernel
theorem dX3_settle_20 : decode cX3_settle 20 = .ok (.iconst 1, 1) := by decide +kernel
theorem dX3_settle_21 : decode cX3_settle 21 = .ok (.putfield 132, 3) := by decide +kernel
theorem dX3_settle_24 : decode cX3_settle 24 = .ok (.aload_n 1, 1) := by decide +kernel
theorem dX3_settle_25 : decode cX3_settle 25 = .ok (.dup, 1) := by decide +kernel
theorem dX3_settle_26 : decode cX3_settle 26 = .ok (.getfield 136, 3) := by decide +kernel
theorem dX3_settle_29 : decode cX3_settle 29 = .ok (.iconst 1, 1) := by decide +kernel
theorem dX3_settle_30 : decode cX3_settle 30 = .ok (.iadd, 1) := by decide +kernel
theorem dX3_settle_31 : decode cX3_settle 31 = .ok (.putfield 136, 3) := by decide +kernel
theorem dX3_settle_34 : decode cX3_settle 34 = .ok (.aload_n 0, 1) := by decide +kernel
theorem dX3_settle_35 : decode cX3_settle 35 = .ok (.aload_n 2, 1) := by decide +kernel
theorem dX3_settle_36 : decode cX3_settle 36 = .ok (.invokevirtual 138, 3) := by decide +kernel
theorem dX3_settle_39 : decode cX3_settle 39 = .ok (.istore 6, 2) := by decide +kernel
theorem dX3_settle_41 : decode cX3_settle 41 = .ok (.aload_n 1, 1) := by decide +kernel
theorem dX3_settle_42 : decode cX3_settle 42 = .ok (.aload_n 1, 1) := by decide +kernel
theorem dX3_settle_43 : decode cX3_settle 43 = .ok (.iload 5, 2) := by decide +kernel
theorem dX3_settle_45 : decode cX3_settle 45 = .ok (.invokestatic 142, 3) := by decide +kernel
theorem dX3_settle_48 : decode cX3_settle 48 = .ok (.putfield 146, 3) := by decide +kernel
theorem dX3_settle_51 : decode cX3_settle 51 = .ok (.aload_n 3, 1) := by decide +kernel
theorem dX3_settle_52 : decode cX3_settle 52 = .ok (.getfield 149, 3) := by decide +kernel
theorem dX3_settle_55 : decode cX3_settle 55 = .ok (.aload_n 2, 1) := by decide +kernel
theorem dX3_settle_56 : decode cX3_settle 56 = .ok (.getfield 149, 3) := by decide +kernel
theorem dX3_settle_59 : decode cX3_settle 59 = .ok (.if_icmp .le 27, 3) := by decide +kernel
theorem dX3_settle_62 : decode cX3_settle 62 = .ok (.aload_n 3, 1) := by decide +kernel
theorem dX3_settle_63 : decode cX3_settle 63 = .ok (.aload_n 3, 1) := by decide +kernel
theorem dX3_settle_64 : decode cX3_settle 64 = .ok (.getfield 149, 3) := by decide +kernel
theorem dX3_settle_67 : decode cX3_settle 67 = .ok (.aload_n 2, 1) := by decide +kernel
theorem dX3_settle_68 : decode cX3_settle 68 = .ok (.getfield 149, 3) := by decide +kernel
theorem dX3_settle_71 : decode cX3_settle 71 = .ok (.isub, 1) := by decide +kernel
theorem dX3_settle_72 : decode cX3_settle 72 = .ok (.putfield 152, 3) := by decide +kernel
theorem dX3_settle_75 : decode cX3_settle 75 = .ok (.aload_n 3, 1) := by decide +kernel
theorem dX3_settle_76 : decode cX3_settle 76 = .ok (.iload 4, 2) := by decide +kernel
theorem dX3_settle_78 : decode cX3_settle 78 = .ok (.aload_n 2, 1) := by decide +kernel
theorem dX3_settle_79 : decode cX3_settle 79 = .ok (.getfield 155, 3) := by decide +kernel
theorem dX3_settle_82 : decode cX3_settle 82 = .ok (.isub, 1) := by decide +kernel
theorem dX3_settle_83 : decode cX3_settle 83 = .ok (.putfield 158, 3) := by decide +kernel
theorem dX3_settle_86 : decode cX3_settle 86 = .ok (.aload_n 2, 1) := by decide +kernel
theorem dX3_settle_87 : decode cX3_settle 87 = .ok (.aload_n 3, 1) := by decide +kernel
theorem dX3_settle_88 : decode cX3_settle 88 = .ok (.getfield 161, 3) := by decide +kernel
theorem dX3_settle_91 : decode cX3_settle 91 = .ok (.putfield 162, 3) := by decide +kernel
theorem dX3_settle_94 : decode cX3_settle 94 = .ok (.iload 6, 2) := by decide +kernel
theorem dX3_settle_96 : decode cX3_settle 96 = .ok (.ireturn, 1) := by decide +kernel
theorem dX3_nextInterval_0 : decode cX3_nextInterval 0 = .ok (.iload_n 1, 1) := by decide +kernel
theorem dX3_nextInterval_1 : decode cX3_nextInterval 1 = .ok (.aload_n 0, 1) := by decide +kernel
theorem dX3_nextInterval_2 : decode cX3_nextInterval 2 = .ok (.getfield 129, 3) := by decide +kernel
theorem dX3_nextInterval_5 : decode cX3_nextInterval 5 = .ok (.if_icmp .le 14, 3) := by decide +kernel
theorem dX3_nextInterval_8 : decode cX3_nextInterval 8 = .ok (.iconst 1, 1) := by decide +kernel
theorem dX3_nextInterval_9 : decode cX3_nextInterval 9 = .ok (.aload_n 0, 1) := by decide +kernel
theorem dX3_nextInterval_10 : decode cX3_nextInterval 10 = .ok (.getfield 146, 3) := by decide +kernel
theorem dX3_nextInterval_13 : decode cX3_nextInterval 13 = .ok (.iconst 2, 1) := by decide +kernel
theorem dX3_nextInterval_14 : decode cX3_nextInterval 14 = .ok (.idiv, 1) := by decide +kernel
theorem dX3_nextInterval_15 : decode cX3_nextInterval 15 = .ok (.invokestatic 165, 3) := by decide +kernel
theorem dX3_nextInterval_18 : decode cX3_nextInterval 18 = .ok (.ireturn, 1) := by decide +kernel
theorem dX3_nextInterval_19 : decode cX3_nextInterval 19 = .ok (.iconst 2, 1) := by decide +kernel
theorem dX3_nextInterval_20 : decode cX3_nextInterval 20 = .ok (.iload_n 1, 1) := by decide +kernel
theorem dX3_nextInterval_21 : decode cX3_nextInterval 21 = .ok (.imul, 1) := by decide +kernel
theorem dX3_nextInterval_22 : decode cX3_nextInterval 22 = .ok (.aload_n 0, 1) := by decide +kernel
theorem dX3_nextInterval_23 : decode cX3_nextInterval 23 = .ok (.getfield 129, 3) := by decide +kernel
theorem dX3_nextInterval_26 : decode cX3_nextInterval 26 = .ok (.if_icmp .gt 21, 3) := by decide +kernel
theorem dX3_nextInterval_29 : decode cX3_nextInterval 29 = .ok (.sipush 999, 3) := by decide +kernel
theorem dX3_nextInterval_32 : decode cX3_nextInterval 32 = .ok (.aload_n 0, 1) := by decide +kernel
theorem dX3_nextInterval_33 : decode cX3_nextInterval 33 = .ok (.getfield 146, 3) := by decide +kernel
theorem dX3_nextInterval_36 : decode cX3_nextInterval 36 = .ok (.aload_n 0, 1) := by decide +kernel
theorem dX3_nextInterval_37 : decode cX3_nextInterval 37 = .ok (.getfield 146, 3) := by decide +kernel
theorem dX3_nextInterval_40 : decode cX3_nextInterval 40 = .ok (.iconst 4, 1) := by decide +kernel
theorem dX3_nextInterval_41 : decode cX3_nextInterval 41 = .ok (.idiv, 1) := by decide +kernel
theorem dX3_nextInterval_42 : decode cX3_nextInterval 42 = .ok (.iadd, 1) := by decide +kernel
theorem dX3_nextInterval_43 : decode cX3_nextInterval 43 = .ok (.invokestatic 169, 3) := by decide +kernel
theorem dX3_nextInterval_46 : decode cX3_nextInterval 46 = .ok (.ireturn, 1) := by decide +kernel
theorem dX3_nextInterval_47 : decode cX3_nextInterval 47 = .ok (.aload_n 0, 1) := by decide +kernel
theorem dX3_nextInterval_48 : decode cX3_nextInterval 48 = .ok (.getfield 146, 3) := by decide +kernel
theorem dX3_nextInterval_51 : decode cX3_nextInterval 51 = .ok (.ireturn, 1) := by decide +kernel
theorem dX3_sumPoints_0 : decode cX3_sumPoints 0 = .ok (.aload_n 0, 1) := by decide +kernel
theorem dX3_sumPoints_1 : decode cX3_sumPoints 1 = .ok (.lconst 0, 1) := by decide +kernel
theorem dX3_sumPoints_2 : decode cX3_sumPoints 2 = .ok (.putfield 172, 3) := by decide +kernel
theorem dX3_sumPoints_5 : decode cX3_sumPoints 5 = .ok (.aload_n 0, 1) := by decide +kernel
theorem dX3_sumPoints_6 : decode cX3_sumPoints 6 = .ok (.lconst 0, 1) := by decide +kernel
theorem dX3_sumPoints_7 : decode cX3_sumPoints 7 = .ok (.putfield 176, 3) := by decide +kernel
theorem dX3_sumPoints_10 : decode cX3_sumPoints 10 = .ok (.iconst 0, 1) := by decide +kernel
theorem dX3_sumPoints_11 : decode cX3_sumPoints 11 = .ok (.istore_n 1, 1) := by decide +kernel
theorem dX3_sumPoints_12 : decode cX3_sumPoints 12 = .ok (.aload_n 0, 1) := by decide +kernel
theorem dX3_sumPoints_13 : decode cX3_sumPoints 13 = .ok (.getfield 95, 3) := by decide +kernel
theorem dX3_sumPoints_16 : decode cX3_sumPoints 16 = .ok (.astore_n 2, 1) := by decide +kernel
theorem dX3_sumPoints_17 : decode cX3_sumPoints 17 = .ok (.aload_n 2, 1) := by decide +kernel
theorem dX3_sumPoints_18 : decode cX3_sumPoints 18 = .ok (.ifnull 67, 3) := by decide +kernel
theorem dX3_sumPoints_21 : decode cX3_sumPoints 21 = .ok (.iload_n 1, 1) := by decide +kernel
theorem dX3_sumPoints_22 : decode cX3_sumPoints 22 = .ok (.bipush 8, 2) := by decide +kernel
theorem dX3_sumPoints_24 : decode cX3_sumPoints 24 = .ok (.if_icmp .ge 61, 3) := by decide +kernel
theorem dX3_sumPoints_27 : decode cX3_sumPoints 27 = .ok (.aload_n 2, 1) := by decide +kernel
theorem dX3_sumPoints_28 : decode cX3_sumPoints 28 = .ok (.getfield 152, 3) := by decide +kernel
theorem dX3_sumPoints_31 : decode cX3_sumPoints 31 = .ok (.ifCond .le 46, 3) := by decide +kernel
theorem dX3_sumPoints_34 : decode cX3_sumPoints 34 = .ok (.iinc 1 1, 3) := by decide +kernel
theorem dX3_sumPoints_37 : decode cX3_sumPoints 37 = .ok (.aload_n 0, 1) := by decide +kernel
theorem dX3_sumPoints_38 : decode cX3_sumPoints 38 = .ok (.dup, 1) := by decide +kernel
theorem dX3_sumPoints_39 : decode cX3_sumPoints 39 = .ok (.getfield 172, 3) := by decide +kernel
theorem dX3_sumPoints_42 : decode cX3_sumPoints 42 = .ok (.aload_n 2, 1) := by decide +kernel
theorem dX3_sumPoints_43 : decode cX3_sumPoints 43 = .ok (.getfield 152, 3) := by decide +kernel
theorem dX3_sumPoints_46 : decode cX3_sumPoints 46 = .ok (.i2l, 1) := by decide +kernel
theorem dX3_sumPoints_47 : decode cX3_sumPoints 47 = .ok (.aload_n 2, 1) := by decide +kernel
theorem dX3_sumPoints_48 : decode cX3_sumPoints 48 = .ok (.getfield 158, 3) := by decide +kernel
theorem dX3_sumPoints_51 : decode cX3_sumPoints 51 = .ok (.i2l, 1) := by decide +kernel
theorem dX3_sumPoints_52 : decode cX3_sumPoints 52 = .ok (.lmul, 1) := by decide +kernel
theorem dX3_sumPoints_53 : decode cX3_sumPoints 53 = .ok (.ladd, 1) := by decide +kernel
theorem dX3_sumPoints_54 : decode cX3_sumPoints 54 = .ok (.putfield 172, 3) := by decide +kernel
theorem dX3_sumPoints_57 : decode cX3_sumPoints 57 = .ok (.aload_n 0, 1) := by decide +kernel
theorem dX3_sumPoints_58 : decode cX3_sumPoints 58 = .ok (.dup, 1) := by decide +kernel
theorem dX3_sumPoints_59 : decode cX3_sumPoints 59 = .ok (.getfield 176, 3) := by decide +kernel
theorem dX3_sumPoints_62 : decode cX3_sumPoints 62 = .ok (.aload_n 2, 1) := by decide +kernel
theorem dX3_sumPoints_63 : decode cX3_sumPoints 63 = .ok (.getfield 152, 3) := by decide +kernel
theorem dX3_sumPoints_66 : decode cX3_sumPoints 66 = .ok (.i2l, 1) := by decide +kernel
theorem dX3_sumPoints_67 : decode cX3_sumPoints 67 = .ok (.aload_n 2, 1) := by decide +kernel
theorem dX3_sumPoints_68 : decode cX3_sumPoints 68 = .ok (.getfield 152, 3) := by decide +kernel
theorem dX3_sumPoints_71 : decode cX3_sumPoints 71 = .ok (.i2l, 1) := by decide +kernel
theorem dX3_sumPoints_72 : decode cX3_sumPoints 72 = .ok (.lmul, 1) := by decide +kernel
theorem dX3_sumPoints_73 : decode cX3_sumPoints 73 = .ok (.ladd, 1) := by decide +kernel
theorem dX3_sumPoints_74 : decode cX3_sumPoints 74 = .ok (.putfield 176, 3) := by decide +kernel
theorem dX3_sumPoints_77 : decode cX3_sumPoints 77 = .ok (.aload_n 2, 1) := by decide +kernel
theorem dX3_sumPoints_78 : decode cX3_sumPoints 78 = .ok (.getfield 179, 3) := by decide +kernel
theorem dX3_sumPoints_81 : decode cX3_sumPoints 81 = .ok (.astore_n 2, 1) := by decide +kernel
theorem dX3_sumPoints_82 : decode cX3_sumPoints 82 = .ok (.goto (-65), 3) := by decide +kernel
theorem dX3_sumPoints_85 : decode cX3_sumPoints 85 = .ok (.return_, 1) := by decide +kernel
theorem dX3_intervalOf_0 : decode cX3_intervalOf 0 = .ok (.aload_n 0, 1) := by decide +kernel
theorem dX3_intervalOf_1 : decode cX3_intervalOf 1 = .ok (.iload_n 1, 1) := by decide +kernel
theorem dX3_intervalOf_2 : decode cX3_intervalOf 2 = .ok (.invokevirtual 54, 3) := by decide +kernel
theorem dX3_intervalOf_5 : decode cX3_intervalOf 5 = .ok (.getfield 146, 3) := by decide +kernel
theorem dX3_intervalOf_8 : decode cX3_intervalOf 8 = .ok (.ireturn, 1) := by decide +kernel
theorem dX3_dueOf_0 : decode cX3_dueOf 0 = .ok (.aload_n 0, 1) := by decide +kernel
theorem dX3_dueOf_1 : decode cX3_dueOf 1 = .ok (.iload_n 1, 1) := by decide +kernel
theorem dX3_dueOf_2 : decode cX3_dueOf 2 = .ok (.invokevirtual 54, 3) := by decide +kernel
theorem dX3_dueOf_5 : decode cX3_dueOf 5 = .ok (.astore_n 2, 1) := by decide +kernel
theorem dX3_dueOf_6 : decode cX3_dueOf 6 = .ok (.aload_n 2, 1) := by decide +kernel
theorem dX3_dueOf_7 : decode cX3_dueOf 7 = .ok (.getfield 95, 3) := by decide +kernel
theorem dX3_dueOf_10 : decode cX3_dueOf 10 = .ok (.ifnonnull 7, 3) := by decide +kernel
theorem dX3_dueOf_13 : decode cX3_dueOf 13 = .ok (.iconst (-1), 1) := by decide +kernel
theorem dX3_dueOf_14 : decode cX3_dueOf 14 = .ok (.goto 11, 3) := by decide +kernel
theorem dX3_dueOf_17 : decode cX3_dueOf 17 = .ok (.aload_n 2, 1) := by decide +kernel
theorem dX3_dueOf_18 : decode cX3_dueOf 18 = .ok (.aload_n 2, 1) := by decide +kernel
theorem dX3_dueOf_19 : decode cX3_dueOf 19 = .ok (.getfield 95, 3) := by decide +kernel
theorem dX3_dueOf_22 : decode cX3_dueOf 22 = .ok (.invokestatic 182, 3) := by decide +kernel
theorem dX3_dueOf_25 : decode cX3_dueOf 25 = .ok (.ireturn, 1) := by decide +kernel
theorem dX3_isSuspect_0 : decode cX3_isSuspect 0 = .ok (.aload_n 0, 1) := by decide +kernel
theorem dX3_isSuspect_1 : decode cX3_isSuspect 1 = .ok (.iload_n 1, 1) := by decide +kernel
theorem dX3_isSuspect_2 : decode cX3_isSuspect 2 = .ok (.invokevirtual 54, 3) := by decide +kernel
theorem dX3_isSuspect_5 : decode cX3_isSuspect 5 = .ok (.astore_n 2, 1) := by decide +kernel
theorem dX3_isSuspect_6 : decode cX3_isSuspect 6 = .ok (.aload_n 2, 1) := by decide +kernel
theorem dX3_isSuspect_7 : decode cX3_isSuspect 7 = .ok (.getfield 95, 3) := by decide +kernel
theorem dX3_isSuspect_10 : decode cX3_isSuspect 10 = .ok (.ifnull 17, 3) := by decide +kernel
theorem dX3_isSuspect_13 : decode cX3_isSuspect 13 = .ok (.aload_n 2, 1) := by decide +kernel
theorem dX3_isSuspect_14 : decode cX3_isSuspect 14 = .ok (.getfield 95, 3) := by decide +kernel
theorem dX3_isSuspect_17 : decode cX3_isSuspect 17 = .ok (.getfield 186, 3) := by decide +kernel
theorem dX3_isSuspect_20 : decode cX3_isSuspect 20 = .ok (.ifCond .eq 7, 3) := by decide +kernel
theorem dX3_isSuspect_23 : decode cX3_isSuspect 23 = .ok (.iconst 1, 1) := by decide +kernel
theorem dX3_isSuspect_24 : decode cX3_isSuspect 24 = .ok (.goto 4, 3) := by decide +kernel
theorem dX3_isSuspect_27 : decode cX3_isSuspect 27 = .ok (.iconst 0, 1) := by decide +kernel
theorem dX3_isSuspect_28 : decode cX3_isSuspect 28 = .ok (.ireturn, 1) := by decide +kernel
theorem dX3_distrusted_0 : decode cX3_distrusted 0 = .ok (.aload_n 0, 1) := by decide +kernel
theorem dX3_distrusted_1 : decode cX3_distrusted 1 = .ok (.aload_n 0, 1) := by decide +kernel
theorem dX3_distrusted_2 : decode cX3_distrusted 2 = .ok (.iload_n 1, 1) := by decide +kernel
theorem dX3_distrusted_3 : decode cX3_distrusted 3 = .ok (.invokevirtual 54, 3) := by decide +kernel
theorem dX3_distrusted_6 : decode cX3_distrusted 6 = .ok (.invokevirtual 86, 3) := by decide +kernel
theorem dX3_distrusted_9 : decode cX3_distrusted 9 = .ok (.invokestatic 63, 3) := by decide +kernel
theorem dX3_distrusted_12 : decode cX3_distrusted 12 = .ok (.ireturn, 1) := by decide +kernel
theorem dX3_chain_0 : decode cX3_chain 0 = .ok (.iconst 0, 1) := by decide +kernel
theorem dX3_chain_1 : decode cX3_chain 1 = .ok (.istore_n 2, 1) := by decide +kernel
theorem dX3_chain_2 : decode cX3_chain 2 = .ok (.aload_n 0, 1) := by decide +kernel
theorem dX3_chain_3 : decode cX3_chain 3 = .ok (.iload_n 1, 1) := by decide +kernel
theorem dX3_chain_4 : decode cX3_chain 4 = .ok (.invokevirtual 54, 3) := by decide +kernel
theorem dX3_chain_7 : decode cX3_chain 7 = .ok (.astore_n 3, 1) := by decide +kernel
theorem dX3_chain_8 : decode cX3_chain 8 = .ok (.aload_n 3, 1) := by decide +kernel
theorem dX3_chain_9 : decode cX3_chain 9 = .ok (.ifnull 14, 3) := by decide +kernel
theorem dX3_chain_12 : decode cX3_chain 12 = .ok (.iinc 2 1, 3) := by decide +kernel
theorem dX3_chain_15 : decode cX3_chain 15 = .ok (.aload_n 3, 1) := by decide +kernel
theorem dX3_chain_16 : decode cX3_chain 16 = .ok (.getfield 50, 3) := by decide +kernel
theorem dX3_chain_19 : decode cX3_chain 19 = .ok (.astore_n 3, 1) := by decide +kernel
theorem dX3_chain_20 : decode cX3_chain 20 = .ok (.goto (-12), 3) := by decide +kernel
theorem dX3_chain_23 : decode cX3_chain 23 = .ok (.iload_n 2, 1) := by decide +kernel
theorem dX3_chain_24 : decode cX3_chain 24 = .ok (.ireturn, 1) := by decide +kernel
theorem dX3_failures_0 : decode cX3_failures 0 = .ok (.aload_n 0, 1) := by decide +kernel
theorem dX3_failures_1 : decode cX3_failures 1 = .ok (.iload_n 1, 1) := by decide +kernel
theorem dX3_failures_2 : decode cX3_failures 2 = .ok (.invokevirtual 54, 3) := by decide +kernel
theorem dX3_failures_5 : decode cX3_failures 5 = .ok (.getfield 136, 3) := by decide +kernel
theorem dX3_failures_8 : decode cX3_failures 8 = .ok (.ireturn, 1) := by decide +kernel
theorem dX3_dueDay_0 : decode cX3_dueDay 0 = .ok (.aload_n 1, 1) := by decide +kernel
theorem dX3_dueDay_1 : decode cX3_dueDay 1 = .ok (.getfield 149, 3) := by decide +kernel
theorem dX3_dueDay_4 : decode cX3_dueDay 4 = .ok (.aload_n 0, 1) := by decide +kernel
theorem dX3_dueDay_5 : decode cX3_dueDay 5 = .ok (.getfield 146, 3) := by decide +kernel
theorem dX3_dueDay_8 : decode cX3_dueDay 8 = .ok (.iadd, 1) := by decide +kernel
theorem dX3_dueDay_9 : decode cX3_dueDay 9 = .ok (.ireturn, 1) := by decide +kernel
theorem dX3_isInForce_0 : decode cX3_isInForce 0 = .ok (.aload_n 1, 1) := by decide +kernel
theorem dX3_isInForce_1 : decode cX3_isInForce 1 = .ok (.getfield 95, 3) := by decide +kernel
theorem dX3_isInForce_4 : decode cX3_isInForce 4 = .ok (.ifnull 32, 3) := by decide +kernel
theorem dX3_isInForce_7 : decode cX3_isInForce 7 = .ok (.aload_n 0, 1) := by decide +kernel
theorem dX3_isInForce_8 : decode cX3_isInForce 8 = .ok (.getfield 69, 3) := by decide +kernel
theorem dX3_isInForce_11 : decode cX3_isInForce 11 = .ok (.aload_n 1, 1) := by decide +kernel
theorem dX3_isInForce_12 : decode cX3_isInForce 12 = .ok (.aload_n 1, 1) := by decide +kernel
theorem dX3_isInForce_13 : decode cX3_isInForce 13 = .ok (.getfield 95, 3) := by decide +kernel
theorem dX3_isInForce_16 : decode cX3_isInForce 16 = .ok (.invokestatic 182, 3) := by decide +kernel
theorem dX3_isInForce_19 : decode cX3_isInForce 19 = .ok (.if_icmp .gt 17, 3) := by decide +kernel
theorem dX3_isInForce_22 : decode cX3_isInForce 22 = .ok (.aload_n 1, 1) := by decide +kernel
theorem dX3_isInForce_23 : decode cX3_isInForce 23 = .ok (.getfield 95, 3) := by decide +kernel
theorem dX3_isInForce_26 : decode cX3_isInForce 26 = .ok (.getfield 186, 3) := by decide +kernel
theorem dX3_isInForce_29 : decode cX3_isInForce 29 = .ok (.ifCond .ne 7, 3) := by decide +kernel
theorem dX3_isInForce_32 : decode cX3_isInForce 32 = .ok (.iconst 1, 1) := by decide +kernel
theorem dX3_isInForce_33 : decode cX3_isInForce 33 = .ok (.goto 4, 3) := by decide +kernel
theorem dX3_isInForce_36 : decode cX3_isInForce 36 = .ok (.iconst 0, 1) := by decide +kernel
theorem dX3_isInForce_37 : decode cX3_isInForce 37 = .ok (.ireturn, 1) := by decide +kernel
theorem dX3_firstOutOfForce_0 : decode cX3_firstOutOfForce 0 = .ok (.aload_n 1, 1) := by decide +kernel
theorem dX3_firstOutOfForce_1 : decode cX3_firstOutOfForce 1 = .ok (.astore_n 2, 1) := by decide +kernel
theorem dX3_firstOutOfForce_2 : decode cX3_firstOutOfForce 2 = .ok (.aload_n 2, 1) := by decide +kernel
theorem dX3_firstOutOfForce_3 : decode cX3_firstOutOfForce 3 = .ok (.ifnull 21, 3) := by decide +kernel
theorem dX3_firstOutOfForce_6 : decode cX3_firstOutOfForce 6 = .ok (.aload_n 0, 1) := by decide +kernel
theorem dX3_firstOutOfForce_7 : decode cX3_firstOutOfForce 7 = .ok (.aload_n 2, 1) := by decide +kernel
theorem dX3_firstOutOfForce_8 : decode cX3_firstOutOfForce 8 = .ok (.invokevirtual 189, 3) := by decide +kernel
theorem dX3_firstOutOfForce_11 : decode cX3_firstOutOfForce 11 = .ok (.ifCond .ne 5, 3) := by decide +kernel
theorem dX3_firstOutOfForce_14 : decode cX3_firstOutOfForce 14 = .ok (.aload_n 2, 1) := by decide +kernel
theorem dX3_firstOutOfForce_15 : decode cX3_firstOutOfForce 15 = .ok (.areturn, 1) := by decide +kernel
theorem dX3_firstOutOfForce_16 : decode cX3_firstOutOfForce 16 = .ok (.aload_n 2, 1) := by decide +kernel
theorem dX3_firstOutOfForce_17 : decode cX3_firstOutOfForce 17 = .ok (.getfield 50, 3) := by decide +kernel
theorem dX3_firstOutOfForce_20 : decode cX3_firstOutOfForce 20 = .ok (.astore_n 2, 1) := by decide +kernel
theorem dX3_firstOutOfForce_21 : decode cX3_firstOutOfForce 21 = .ok (.goto (-19), 3) := by decide +kernel
theorem dX3_firstOutOfForce_24 : decode cX3_firstOutOfForce 24 = .ok (.aconst_null, 1) := by decide +kernel
theorem dX3_firstOutOfForce_25 : decode cX3_firstOutOfForce 25 = .ok (.areturn, 1) := by decide +kernel
theorem dX3_slope_0 : decode cX3_slope 0 = .ok (.aload_n 0, 1) := by decide +kernel
theorem dX3_slope_1 : decode cX3_slope 1 = .ok (.iload_n 1, 1) := by decide +kernel
theorem dX3_slope_2 : decode cX3_slope 2 = .ok (.invokevirtual 54, 3) := by decide +kernel
theorem dX3_slope_5 : decode cX3_slope 5 = .ok (.astore_n 2, 1) := by decide +kernel
theorem dX3_slope_6 : decode cX3_slope 6 = .ok (.aload_n 2, 1) := by decide +kernel
theorem dX3_slope_7 : decode cX3_slope 7 = .ok (.getfield 176, 3) := by decide +kernel
theorem dX3_slope_10 : decode cX3_slope 10 = .ok (.lconst 0, 1) := by decide +kernel
theorem dX3_slope_11 : decode cX3_slope 11 = .ok (.lcmp, 1) := by decide +kernel
theorem dX3_slope_12 : decode cX3_slope 12 = .ok (.ifCond .gt 5, 3) := by decide +kernel
theorem dX3_slope_15 : decode cX3_slope 15 = .ok (.dconst 0, 1) := by decide +kernel
theorem dX3_slope_16 : decode cX3_slope 16 = .ok (.dreturn, 1) := by decide +kernel
theorem dX3_slope_17 : decode cX3_slope 17 = .ok (.aload_n 2, 1) := by decide +kernel
theorem dX3_slope_18 : decode cX3_slope 18 = .ok (.getfield 172, 3) := by decide +kernel
theorem dX3_slope_21 : decode cX3_slope 21 = .ok (.l2d, 1) := by decide +kernel
theorem dX3_slope_22 : decode cX3_slope 22 = .ok (.aload_n 2, 1) := by decide +kernel
theorem dX3_slope_23 : decode cX3_slope 23 = .ok (.getfield 176, 3) := by decide +kernel
theorem dX3_slope_26 : decode cX3_slope 26 = .ok (.l2d, 1) := by decide +kernel
theorem dX3_slope_27 : decode cX3_slope 27 = .ok (.ddiv, 1) := by decide +kernel
theorem dX3_slope_28 : decode cX3_slope 28 = .ok (.dreturn, 1) := by decide +kernel
theorem dX3_expected_0 : decode cX3_expected 0 = .ok (.aload_n 0, 1) := by decide +kernel
theorem dX3_expected_1 : decode cX3_expected 1 = .ok (.iload_n 1, 1) := by decide +kernel
theorem dX3_expected_2 : decode cX3_expected 2 = .ok (.invokevirtual 54, 3) := by decide +kernel
theorem dX3_expected_5 : decode cX3_expected 5 = .ok (.astore_n 3, 1) := by decide +kernel
theorem dX3_expected_6 : decode cX3_expected 6 = .ok (.iload_n 2, 1) := by decide +kernel
theorem dX3_expected_7 : decode cX3_expected 7 = .ok (.ifCond .lt 10, 3) := by decide +kernel
theorem dX3_expected_10 : decode cX3_expected 10 = .ok (.iload_n 2, 1) := by decide +kernel
theorem dX3_expected_11 : decode cX3_expected 11 = .ok (.sipush 9999, 3) := by decide +kernel
theorem dX3_expected_14 : decode cX3_expected 14 = .ok (.if_icmp .le 13, 3) := by decide +kernel
theorem dX3_expected_17 : decode cX3_expected 17 = .ok (.new 31, 3) := by decide +kernel
theorem dX3_expected_20 : decode cX3_expected 20 = .ok (.dup, 1) := by decide +kernel
theorem dX3_expected_21 : decode cX3_expected 21 = .ok (.ldc 67, 2) := by decide +kernel
theorem dX3_expected_23 : decode cX3_expected 23 = .ok (.invokespecial 35, 3) := by decide +kernel
theorem dX3_expected_26 : decode cX3_expected 26 = .ok (.athrow, 1) := by decide +kernel
theorem dX3_expected_27 : decode cX3_expected 27 = .ok (.aload_n 3, 1) := by decide +kernel
theorem dX3_expected_28 : decode cX3_expected 28 = .ok (.getfield 95, 3) := by decide +kernel
theorem dX3_expected_31 : decode cX3_expected 31 = .ok (.ifnonnull 13, 3) := by decide +kernel
theorem dX3_expected_34 : decode cX3_expected 34 = .ok (.new 42, 3) := by decide +kernel
theorem dX3_expected_37 : decode cX3_expected 37 = .ok (.dup, 1) := by decide +kernel
theorem dX3_expected_38 : decode cX3_expected 38 = .ok (.ldc 193, 2) := by decide +kernel
theorem dX3_expected_40 : decode cX3_expected 40 = .ok (.invokespecial 46, 3) := by decide +kernel
theorem dX3_expected_43 : decode cX3_expected 43 = .ok (.athrow, 1) := by decide +kernel
theorem dX3_expected_44 : decode cX3_expected 44 = .ok (.aload_n 3, 1) := by decide +kernel
theorem dX3_expected_45 : decode cX3_expected 45 = .ok (.aload_n 3, 1) := by decide +kernel
theorem dX3_expected_46 : decode cX3_expected 46 = .ok (.getfield 95, 3) := by decide +kernel
theorem dX3_expected_49 : decode cX3_expected 49 = .ok (.iload_n 2, 1) := by decide +kernel
theorem dX3_expected_50 : decode cX3_expected 50 = .ok (.invokestatic 195, 3) := by decide +kernel
theorem dX3_expected_53 : decode cX3_expected 53 = .ok (.lreturn, 1) := by decide +kernel
theorem dX3_driftsOut_0 : decode cX3_driftsOut 0 = .ok (.aload_n 0, 1) := by decide +kernel
theorem dX3_driftsOut_1 : decode cX3_driftsOut 1 = .ok (.iload_n 1, 1) := by decide +kernel
theorem dX3_driftsOut_2 : decode cX3_driftsOut 2 = .ok (.invokevirtual 54, 3) := by decide +kernel
theorem dX3_driftsOut_5 : decode cX3_driftsOut 5 = .ok (.astore_n 2, 1) := by decide +kernel
theorem dX3_driftsOut_6 : decode cX3_driftsOut 6 = .ok (.aload_n 2, 1) := by decide +kernel
theorem dX3_driftsOut_7 : decode cX3_driftsOut 7 = .ok (.getfield 95, 3) := by decide +kernel
theorem dX3_driftsOut_10 : decode cX3_driftsOut 10 = .ok (.astore_n 3, 1) := by decide +kernel
theorem dX3_driftsOut_11 : decode cX3_driftsOut 11 = .ok (.aload_n 3, 1) := by decide +kernel
theorem dX3_driftsOut_12 : decode cX3_driftsOut 12 = .ok (.ifnonnull 5, 3) := by decide +kernel
theorem dX3_driftsOut_15 : decode cX3_driftsOut 15 = .ok (.iconst (-1), 1) := by decide +kernel
theorem dX3_driftsOut_16 : decode cX3_driftsOut 16 = .ok (.ireturn, 1) := by decide +kernel
theorem dX3_driftsOut_17 : decode cX3_driftsOut 17 = .ok (.aload_n 2, 1) := by decide +kernel
theorem dX3_driftsOut_18 : decode cX3_driftsOut 18 = .ok (.aload_n 3, 1) := by decide +kernel
theorem dX3_driftsOut_19 : decode cX3_driftsOut 19 = .ok (.iconst 0, 1) := by decide +kernel
theorem dX3_driftsOut_20 : decode cX3_driftsOut 20 = .ok (.invokestatic 199, 3) := by decide +kernel
theorem dX3_driftsOut_23 : decode cX3_driftsOut 23 = .ok (.ifCond .eq 5, 3) := by decide +kernel
theorem dX3_driftsOut_26 : decode cX3_driftsOut 26 = .ok (.iconst 0, 1) := by decide +kernel
theorem dX3_driftsOut_27 : decode cX3_driftsOut 27 = .ok (.ireturn, 1) := by decide +kernel
theorem dX3_driftsOut_28 : decode cX3_driftsOut 28 = .ok (.iconst 0, 1) := by decide +kernel
theorem dX3_driftsOut_29 : decode cX3_driftsOut 29 = .ok (.istore 4, 2) := by decide +kernel
theorem dX3_driftsOut_31 : decode cX3_driftsOut 31 = .ok (.sipush 8192, 3) := by decide +kernel
theorem dX3_driftsOut_34 : decode cX3_driftsOut 34 = .ok (.istore 5, 2) := by decide +kernel
theorem dX3_driftsOut_36 : decode cX3_driftsOut 36 = .ok (.iload 5, 2) := by decide +kernel
theorem dX3_driftsOut_38 : decode cX3_driftsOut 38 = .ok (.ifCond .le 43, 3) := by decide +kernel
theorem dX3_driftsOut_41 : decode cX3_driftsOut 41 = .ok (.iload 4, 2) := by decide +kernel
theorem dX3_driftsOut_43 : decode cX3_driftsOut 43 = .ok (.iload 5, 2) := by decide +kernel
theorem dX3_driftsOut_45 : decode cX3_driftsOut 45 = .ok (.iadd, 1) := by decide +kernel
theorem dX3_driftsOut_46 : decode cX3_driftsOut 46 = .ok (.sipush 9999, 3) := by decide +kernel
theorem dX3_driftsOut_49 : decode cX3_driftsOut 49 = .ok (.if_icmp .gt 23, 3) := by decide +kernel
theorem dX3_driftsOut_52 : decode cX3_driftsOut 52 = .ok (.aload_n 2, 1) := by decide +kernel
theorem dX3_driftsOut_53 : decode cX3_driftsOut 53 = .ok (.aload_n 3, 1) := by decide +kernel
theorem dX3_driftsOut_54 : decode cX3_driftsOut 54 = .ok (.iload 4, 2) := by decide +kernel
theorem dX3_driftsOut_56 : decode cX3_driftsOut 56 = .ok (.iload 5, 2) := by decide +kernel
theorem dX3_driftsOut_58 : decode cX3_driftsOut 58 = .ok (.iadd, 1) := by decide +kernel
theorem dX3_driftsOut_59 : decode cX3_driftsOut 59 = .ok (.invokestatic 199, 3) := by decide +kernel
theorem dX3_driftsOut_62 : decode cX3_driftsOut 62 = .ok (.ifCond .ne 10, 3) := by decide +kernel
theorem dX3_driftsOut_65 : decode cX3_driftsOut 65 = .ok (.iload 4, 2) := by decide +kernel
theorem dX3_driftsOut_67 : decode cX3_driftsOut 67 = .ok (.iload 5, 2) := by decide +kernel
theorem dX3_driftsOut_69 : decode cX3_driftsOut 69 = .ok (.iadd, 1) := by decide +kernel
theorem dX3_driftsOut_70 : decode cX3_driftsOut 70 = .ok (.istore 4, 2) := by decide +kernel
theorem dX3_driftsOut_72 : decode cX3_driftsOut 72 = .ok (.iload 5, 2) := by decide +kernel
theorem dX3_driftsOut_74 : decode cX3_driftsOut 74 = .ok (.iconst 2, 1) := by decide +kernel
theorem dX3_driftsOut_75 : decode cX3_driftsOut 75 = .ok (.idiv, 1) := by decide +kernel
theorem dX3_driftsOut_76 : decode cX3_driftsOut 76 = .ok (.istore 5, 2) := by decide +kernel
theorem dX3_driftsOut_78 : decode cX3_driftsOut 78 = .ok (.goto (-42), 3) := by decide +kernel
theorem dX3_driftsOut_81 : decode cX3_driftsOut 81 = .ok (.iload 4, 2) := by decide +kernel
theorem dX3_driftsOut_83 : decode cX3_driftsOut 83 = .ok (.sipush 9999, 3) := by decide +kernel
theorem dX3_driftsOut_86 : decode cX3_driftsOut 86 = .ok (.if_icmp .ne 7, 3) := by decide +kernel
theorem dX3_driftsOut_89 : decode cX3_driftsOut 89 = .ok (.iconst (-1), 1) := by decide +kernel
theorem dX3_driftsOut_90 : decode cX3_driftsOut 90 = .ok (.goto 7, 3) := by decide +kernel
theorem dX3_driftsOut_93 : decode cX3_driftsOut 93 = .ok (.iload 4, 2) := by decide +kernel
theorem dX3_driftsOut_95 : decode cX3_driftsOut 95 = .ok (.iconst 1, 1) := by decide +kernel
theorem dX3_driftsOut_96 : decode cX3_driftsOut 96 = .ok (.iadd, 1) := by decide +kernel
theorem dX3_driftsOut_97 : decode cX3_driftsOut 97 = .ok (.ireturn, 1) := by decide +kernel
theorem dX3_uncertainty_0 : decode cX3_uncertainty 0 = .ok (.aload_n 0, 1) := by decide +kernel
theorem dX3_uncertainty_1 : decode cX3_uncertainty 1 = .ok (.iload_n 1, 1) := by decide +kernel
theorem dX3_uncertainty_2 : decode cX3_uncertainty 2 = .ok (.invokevirtual 54, 3) := by decide +kernel
theorem dX3_uncertainty_5 : decode cX3_uncertainty 5 = .ok (.iconst 0, 1) := by decide +kernel
theorem dX3_uncertainty_6 : decode cX3_uncertainty 6 = .ok (.invokestatic 203, 3) := by decide +kernel
theorem dX3_uncertainty_9 : decode cX3_uncertainty 9 = .ok (.ireturn, 1) := by decide +kernel
theorem dX3_limit_0 : decode cX3_limit 0 = .ok (.aload_n 0, 1) := by decide +kernel
theorem dX3_limit_1 : decode cX3_limit 1 = .ok (.iload_n 1, 1) := by decide +kernel
theorem dX3_limit_2 : decode cX3_limit 2 = .ok (.invokevirtual 54, 3) := by decide +kernel
theorem dX3_limit_5 : decode cX3_limit 5 = .ok (.astore_n 2, 1) := by decide +kernel
theorem dX3_limit_6 : decode cX3_limit 6 = .ok (.iconst 0, 1) := by decide +kernel
theorem dX3_limit_7 : decode cX3_limit 7 = .ok (.aload_n 2, 1) := by decide +kernel
theorem dX3_limit_8 : decode cX3_limit 8 = .ok (.getfield 129, 3) := by decide +kernel
theorem dX3_limit_11 : decode cX3_limit 11 = .ok (.aload_n 2, 1) := by decide +kernel
theorem dX3_limit_12 : decode cX3_limit 12 = .ok (.iconst 0, 1) := by decide +kernel
theorem dX3_limit_13 : decode cX3_limit 13 = .ok (.invokestatic 203, 3) := by decide +kernel
theorem dX3_limit_16 : decode cX3_limit 16 = .ok (.isub, 1) := by decide +kernel
theorem dX3_limit_17 : decode cX3_limit 17 = .ok (.invokestatic 165, 3) := by decide +kernel
theorem dX3_limit_20 : decode cX3_limit 20 = .ok (.ireturn, 1) := by decide +kernel
theorem dX3_errorAfter_0 : decode cX3_errorAfter 0 = .ok (.aload_n 0, 1) := by decide +kernel
theorem dX3_errorAfter_1 : decode cX3_errorAfter 1 = .ok (.getfield 176, 3) := by decide +kernel
theorem dX3_errorAfter_4 : decode cX3_errorAfter 4 = .ok (.lconst 0, 1) := by decide +kernel
theorem dX3_errorAfter_5 : decode cX3_errorAfter 5 = .ok (.lcmp, 1) := by decide +kernel
theorem dX3_errorAfter_6 : decode cX3_errorAfter 6 = .ok (.ifCond .gt 9, 3) := by decide +kernel
theorem dX3_errorAfter_9 : decode cX3_errorAfter 9 = .ok (.aload_n 1, 1) := by decide +kernel
theorem dX3_errorAfter_10 : decode cX3_errorAfter 10 = .ok (.getfield 155, 3) := by decide +kernel
theorem dX3_errorAfter_13 : decode cX3_errorAfter 13 = .ok (.i2l, 1) := by decide +kernel
theorem dX3_errorAfter_14 : decode cX3_errorAfter 14 = .ok (.lreturn, 1) := by decide +kernel
theorem dX3_errorAfter_15 : decode cX3_errorAfter 15 = .ok (.aload_n 1, 1) := by decide +kernel
theorem dX3_errorAfter_16 : decode cX3_errorAfter 16 = .ok (.getfield 155, 3) := by decide +kernel
theorem dX3_errorAfter_19 : decode cX3_errorAfter 19 = .ok (.i2l, 1) := by decide +kernel
theorem dX3_errorAfter_20 : decode cX3_errorAfter 20 = .ok (.aload_n 0, 1) := by decide +kernel
theorem dX3_errorAfter_21 : decode cX3_errorAfter 21 = .ok (.getfield 172, 3) := by decide +kernel
theorem dX3_errorAfter_24 : decode cX3_errorAfter 24 = .ok (.iload_n 2, 1) := by decide +kernel
theorem dX3_errorAfter_25 : decode cX3_errorAfter 25 = .ok (.i2l, 1) := by decide +kernel
theorem dX3_errorAfter_26 : decode cX3_errorAfter 26 = .ok (.lmul, 1) := by decide +kernel
theorem dX3_errorAfter_27 : decode cX3_errorAfter 27 = .ok (.aload_n 0, 1) := by decide +kernel
theorem dX3_errorAfter_28 : decode cX3_errorAfter 28 = .ok (.getfield 176, 3) := by decide +kernel
theorem dX3_errorAfter_31 : decode cX3_errorAfter 31 = .ok (.invokestatic 206, 3) := by decide +kernel
theorem dX3_errorAfter_34 : decode cX3_errorAfter 34 = .ok (.ladd, 1) := by decide +kernel
theorem dX3_errorAfter_35 : decode cX3_errorAfter 35 = .ok (.lreturn, 1) := by decide +kernel
theorem dX3_isOutAfter_0 : decode cX3_isOutAfter 0 = .ok (.aload_n 0, 1) := by decide +kernel
theorem dX3_isOutAfter_1 : decode cX3_isOutAfter 1 = .ok (.aload_n 1, 1) := by decide +kernel
theorem dX3_isOutAfter_2 : decode cX3_isOutAfter 2 = .ok (.iload_n 2, 1) := by decide +kernel
theorem dX3_isOutAfter_3 : decode cX3_isOutAfter 3 = .ok (.invokestatic 195, 3) := by decide +kernel
theorem dX3_isOutAfter_6 : decode cX3_isOutAfter 6 = .ok (.invokestatic 210, 3) := by decide +kernel
theorem dX3_isOutAfter_9 : decode cX3_isOutAfter 9 = .ok (.aload_n 0, 1) := by decide +kernel
theorem dX3_isOutAfter_10 : decode cX3_isOutAfter 10 = .ok (.getfield 129, 3) := by decide +kernel
theorem dX3_isOutAfter_13 : decode cX3_isOutAfter 13 = .ok (.i2l, 1) := by decide +kernel
theorem dX3_isOutAfter_14 : decode cX3_isOutAfter 14 = .ok (.lcmp, 1) := by decide +kernel
theorem dX3_isOutAfter_15 : decode cX3_isOutAfter 15 = .ok (.ifCond .le 7, 3) := by decide +kernel
theorem dX3_isOutAfter_18 : decode cX3_isOutAfter 18 = .ok (.iconst 1, 1) := by decide +kernel
theorem dX3_isOutAfter_19 : decode cX3_isOutAfter 19 = .ok (.goto 4, 3) := by decide +kernel
theorem dX3_isOutAfter_22 : decode cX3_isOutAfter 22 = .ok (.iconst 0, 1) := by decide +kernel
theorem dX3_isOutAfter_23 : decode cX3_isOutAfter 23 = .ok (.ireturn, 1) := by decide +kernel
theorem dX3_uncertaintyWithChain_0 : decode cX3_uncertaintyWithChain 0 = .ok (.aload_n 0, 1) := by decide +kernel
theorem dX3_uncertaintyWithChain_1 : decode cX3_uncertaintyWithChain 1 = .ok (.ifnull 9, 3) := by decide +kernel
theorem dX3_uncertaintyWithChain_4 : decode cX3_uncertaintyWithChain 4 = .ok (.iload_n 1, 1) := by decide +kernel
theorem dX3_uncertaintyWithChain_5 : decode cX3_uncertaintyWithChain 5 = .ok (.bipush 12, 2) := by decide +kernel
theorem dX3_uncertaintyWithChain_7 : decode cX3_uncertaintyWithChain 7 = .ok (.if_icmp .lt 5, 3) := by decide +kernel
theorem dX3_uncertaintyWithChain_10 : decode cX3_uncertaintyWithChain 10 = .ok (.iconst 0, 1) := by decide +kernel
theorem dX3_uncertaintyWithChain_11 : decode cX3_uncertaintyWithChain 11 = .ok (.ireturn, 1) := by decide +kernel
theorem dX3_uncertaintyWithChain_12 : decode cX3_uncertaintyWithChain 12 = .ok (.aload_n 0, 1) := by decide +kernel
theorem dX3_uncertaintyWithChain_13 : decode cX3_uncertaintyWithChain 13 = .ok (.getfield 50, 3) := by decide +kernel
theorem dX3_uncertaintyWithChain_16 : decode cX3_uncertaintyWithChain 16 = .ok (.iload_n 1, 1) := by decide +kernel
theorem dX3_uncertaintyWithChain_17 : decode cX3_uncertaintyWithChain 17 = .ok (.iconst 1, 1) := by decide +kernel
theorem dX3_uncertaintyWithChain_18 : decode cX3_uncertaintyWithChain 18 = .ok (.iadd, 1) := by decide +kernel
theorem dX3_uncertaintyWithChain_19 : decode cX3_uncertaintyWithChain 19 = .ok (.invokestatic 203, 3) := by decide +kernel
theorem dX3_uncertaintyWithChain_22 : decode cX3_uncertaintyWithChain 22 = .ok (.istore_n 2, 1) := by decide +kernel
theorem dX3_uncertaintyWithChain_23 : decode cX3_uncertaintyWithChain 23 = .ok (.aload_n 0, 1) := by decide +kernel
theorem dX3_uncertaintyWithChain_24 : decode cX3_uncertaintyWithChain 24 = .ok (.getfield 213, 3) := by decide +kernel
theorem dX3_uncertaintyWithChain_27 : decode cX3_uncertaintyWithChain 27 = .ok (.aload_n 0, 1) := by decide +kernel
theorem dX3_uncertaintyWithChain_28 : decode cX3_uncertaintyWithChain 28 = .ok (.getfield 213, 3) := by decide +kernel
theorem dX3_uncertaintyWithChain_31 : decode cX3_uncertaintyWithChain 31 = .ok (.imul, 1) := by decide +kernel
theorem dX3_uncertaintyWithChain_32 : decode cX3_uncertaintyWithChain 32 = .ok (.iload_n 2, 1) := by decide +kernel
theorem dX3_uncertaintyWithChain_33 : decode cX3_uncertaintyWithChain 33 = .ok (.iload_n 2, 1) := by decide +kernel
theorem dX3_uncertaintyWithChain_34 : decode cX3_uncertaintyWithChain 34 = .ok (.imul, 1) := by decide +kernel
theorem dX3_uncertaintyWithChain_35 : decode cX3_uncertaintyWithChain 35 = .ok (.iadd, 1) := by decide +kernel
theorem dX3_uncertaintyWithChain_36 : decode cX3_uncertaintyWithChain 36 = .ok (.invokestatic 216, 3) := by decide +kernel
theorem dX3_uncertaintyWithChain_39 : decode cX3_uncertaintyWithChain 39 = .ok (.ireturn, 1) := by decide +kernel
theorem dX3_leastRoot_0 : decode cX3_leastRoot 0 = .ok (.iload_n 0, 1) := by decide +kernel
theorem dX3_leastRoot_1 : decode cX3_leastRoot 1 = .ok (.ifCond .gt 5, 3) := by decide +kernel
theorem dX3_leastRoot_4 : decode cX3_leastRoot 4 = .ok (.iconst 0, 1) := by decide +kernel
theorem dX3_leastRoot_5 : decode cX3_leastRoot 5 = .ok (.ireturn, 1) := by decide +kernel
theorem dX3_leastRoot_6 : decode cX3_leastRoot 6 = .ok (.iconst 0, 1) := by decide +kernel
theorem dX3_leastRoot_7 : decode cX3_leastRoot 7 = .ok (.istore_n 1, 1) := by decide +kernel
theorem dX3_leastRoot_8 : decode cX3_leastRoot 8 = .ok (.sipush 8192, 3) := by decide +kernel
theorem dX3_leastRoot_11 : decode cX3_leastRoot 11 = .ok (.istore_n 2, 1) := by decide +kernel
theorem dX3_leastRoot_12 : decode cX3_leastRoot 12 = .ok (.iload_n 2, 1) := by decide +kernel
theorem dX3_leastRoot_13 : decode cX3_leastRoot 13 = .ok (.ifCond .le 25, 3) := by decide +kernel
theorem dX3_leastRoot_16 : decode cX3_leastRoot 16 = .ok (.iload_n 1, 1) := by decide +kernel
theorem dX3_leastRoot_17 : decode cX3_leastRoot 17 = .ok (.iload_n 2, 1) := by decide +kernel
theorem dX3_leastRoot_18 : decode cX3_leastRoot 18 = .ok (.iadd, 1) := by decide +kernel
theorem dX3_leastRoot_19 : decode cX3_leastRoot 19 = .ok (.iload_n 1, 1) := by decide +kernel
theorem dX3_leastRoot_20 : decode cX3_leastRoot 20 = .ok (.iload_n 2, 1) := by decide +kernel
theorem dX3_leastRoot_21 : decode cX3_leastRoot 21 = .ok (.iadd, 1) := by decide +kernel
theorem dX3_leastRoot_22 : decode cX3_leastRoot 22 = .ok (.imul, 1) := by decide +kernel
theorem dX3_leastRoot_23 : decode cX3_leastRoot 23 = .ok (.iload_n 0, 1) := by decide +kernel
theorem dX3_leastRoot_24 : decode cX3_leastRoot 24 = .ok (.if_icmp .ge 7, 3) := by decide +kernel
theorem dX3_leastRoot_27 : decode cX3_leastRoot 27 = .ok (.iload_n 1, 1) := by decide +kernel
theorem dX3_leastRoot_28 : decode cX3_leastRoot 28 = .ok (.iload_n 2, 1) := by decide +kernel
theorem dX3_leastRoot_29 : decode cX3_leastRoot 29 = .ok (.iadd, 1) := by decide +kernel
theorem dX3_leastRoot_30 : decode cX3_leastRoot 30 = .ok (.istore_n 1, 1) := by decide +kernel
theorem dX3_leastRoot_31 : decode cX3_leastRoot 31 = .ok (.iload_n 2, 1) := by decide +kernel
theorem dX3_leastRoot_32 : decode cX3_leastRoot 32 = .ok (.iconst 2, 1) := by decide +kernel
theorem dX3_leastRoot_33 : decode cX3_leastRoot 33 = .ok (.idiv, 1) := by decide +kernel
theorem dX3_leastRoot_34 : decode cX3_leastRoot 34 = .ok (.istore_n 2, 1) := by decide +kernel
theorem dX3_leastRoot_35 : decode cX3_leastRoot 35 = .ok (.goto (-23), 3) := by decide +kernel
theorem dX3_leastRoot_38 : decode cX3_leastRoot 38 = .ok (.iload_n 1, 1) := by decide +kernel
theorem dX3_leastRoot_39 : decode cX3_leastRoot 39 = .ok (.iconst 1, 1) := by decide +kernel
theorem dX3_leastRoot_40 : decode cX3_leastRoot 40 = .ok (.iadd, 1) := by decide +kernel
theorem dX3_leastRoot_41 : decode cX3_leastRoot 41 = .ok (.ireturn, 1) := by decide +kernel
theorem dX3_measurements_0 : decode cX3_measurements 0 = .ok (.aload_n 0, 1) := by decide +kernel
theorem dX3_measurements_1 : decode cX3_measurements 1 = .ok (.getfield 113, 3) := by decide +kernel
theorem dX3_measurements_4 : decode cX3_measurements 4 = .ok (.ireturn, 1) := by decide +kernel
theorem dX3_isCalledBack_0 : decode cX3_isCalledBack 0 = .ok (.iload_n 1, 1) := by decide +kernel
theorem dX3_isCalledBack_1 : decode cX3_isCalledBack 1 = .ok (.ifCond .lt 12, 3) := by decide +kernel
theorem dX3_isCalledBack_4 : decode cX3_isCalledBack 4 = .ok (.iload_n 1, 1) := by decide +kernel
theorem dX3_isCalledBack_5 : decode cX3_isCalledBack 5 = .ok (.aload_n 0, 1) := by decide +kernel
theorem dX3_isCalledBack_6 : decode cX3_isCalledBack 6 = .ok (.getfield 17, 3) := by decide +kernel
theorem dX3_isCalledBack_9 : decode cX3_isCalledBack 9 = .ok (.arraylength, 1) := by decide +kernel
theorem dX3_isCalledBack_10 : decode cX3_isCalledBack 10 = .ok (.if_icmp .lt 13, 3) := by decide +kernel
theorem dX3_isCalledBack_13 : decode cX3_isCalledBack 13 = .ok (.new 72, 3) := by decide +kernel
theorem dX3_isCalledBack_16 : decode cX3_isCalledBack 16 = .ok (.dup, 1) := by decide +kernel
theorem dX3_isCalledBack_17 : decode cX3_isCalledBack 17 = .ok (.ldc 219, 2) := by decide +kernel
theorem dX3_isCalledBack_19 : decode cX3_isCalledBack 19 = .ok (.invokespecial 76, 3) := by decide +kernel
theorem dX3_isCalledBack_22 : decode cX3_isCalledBack 22 = .ok (.athrow, 1) := by decide +kernel
theorem dX3_isCalledBack_23 : decode cX3_isCalledBack 23 = .ok (.aload_n 0, 1) := by decide +kernel
theorem dX3_isCalledBack_24 : decode cX3_isCalledBack 24 = .ok (.getfield 17, 3) := by decide +kernel
theorem dX3_isCalledBack_27 : decode cX3_isCalledBack 27 = .ok (.iload_n 1, 1) := by decide +kernel
theorem dX3_isCalledBack_28 : decode cX3_isCalledBack 28 = .ok (.aaload, 1) := by decide +kernel
theorem dX3_isCalledBack_29 : decode cX3_isCalledBack 29 = .ok (.astore_n 2, 1) := by decide +kernel
theorem dX3_isCalledBack_30 : decode cX3_isCalledBack 30 = .ok (.aload_n 2, 1) := by decide +kernel
theorem dX3_isCalledBack_31 : decode cX3_isCalledBack 31 = .ok (.ifnonnull 13, 3) := by decide +kernel
theorem dX3_isCalledBack_34 : decode cX3_isCalledBack 34 = .ok (.new 72, 3) := by decide +kernel
theorem dX3_isCalledBack_37 : decode cX3_isCalledBack 37 = .ok (.dup, 1) := by decide +kernel
theorem dX3_isCalledBack_38 : decode cX3_isCalledBack 38 = .ok (.ldc 219, 2) := by decide +kernel
theorem dX3_isCalledBack_40 : decode cX3_isCalledBack 40 = .ok (.invokespecial 76, 3) := by decide +kernel
theorem dX3_isCalledBack_43 : decode cX3_isCalledBack 43 = .ok (.athrow, 1) := by decide +kernel
theorem dX3_isCalledBack_44 : decode cX3_isCalledBack 44 = .ok (.aload_n 2, 1) := by decide +kernel
theorem dX3_isCalledBack_45 : decode cX3_isCalledBack 45 = .ok (.getfield 221, 3) := by decide +kernel
theorem dX3_isCalledBack_48 : decode cX3_isCalledBack 48 = .ok (.ireturn, 1) := by decide +kernel
theorem dX3_calledBack_0 : decode cX3_calledBack 0 = .ok (.aload_n 0, 1) := by decide +kernel
theorem dX3_calledBack_1 : decode cX3_calledBack 1 = .ok (.getfield 224, 3) := by decide +kernel
theorem dX3_calledBack_4 : decode cX3_calledBack 4 = .ok (.ireturn, 1) := by decide +kernel
theorem dX3_calledBackByLog_0 : decode cX3_calledBackByLog 0 = .ok (.iconst 0, 1) := by decide +kernel
theorem dX3_calledBackByLog_1 : decode cX3_calledBackByLog 1 = .ok (.istore_n 1, 1) := by decide +kernel
theorem dX3_calledBackByLog_2 : decode cX3_calledBackByLog 2 = .ok (.iconst 0, 1) := by decide +kernel
theorem dX3_calledBackByLog_3 : decode cX3_calledBackByLog 3 = .ok (.istore_n 2, 1) := by decide +kernel
theorem dX3_calledBackByLog_4 : decode cX3_calledBackByLog 4 = .ok (.iload_n 2, 1) := by decide +kernel
theorem dX3_calledBackByLog_5 : decode cX3_calledBackByLog 5 = .ok (.aload_n 0, 1) := by decide +kernel
theorem dX3_calledBackByLog_6 : decode cX3_calledBackByLog 6 = .ok (.getfield 113, 3) := by decide +kernel
theorem dX3_calledBackByLog_9 : decode cX3_calledBackByLog 9 = .ok (.if_icmp .ge 43, 3) := by decide +kernel
theorem dX3_calledBackByLog_12 : decode cX3_calledBackByLog 12 = .ok (.iload_n 2, 1) := by decide +kernel
theorem dX3_calledBackByLog_13 : decode cX3_calledBackByLog 13 = .ok (.aload_n 0, 1) := by decide +kernel
theorem dX3_calledBackByLog_14 : decode cX3_calledBackByLog 14 = .ok (.getfield 17, 3) := by decide +kernel
theorem dX3_calledBackByLog_17 : decode cX3_calledBackByLog 17 = .ok (.arraylength, 1) := by decide +kernel
theorem dX3_calledBackByLog_18 : decode cX3_calledBackByLog 18 = .ok (.if_icmp .ge 34, 3) := by decide +kernel
theorem dX3_calledBackByLog_21 : decode cX3_calledBackByLog 21 = .ok (.aload_n 0, 1) := by decide +kernel
theorem dX3_calledBackByLog_22 : decode cX3_calledBackByLog 22 = .ok (.getfield 17, 3) := by decide +kernel
theorem dX3_calledBackByLog_25 : decode cX3_calledBackByLog 25 = .ok (.iload_n 2, 1) := by decide +kernel
theorem dX3_calledBackByLog_26 : decode cX3_calledBackByLog 26 = .ok (.aaload, 1) := by decide +kernel
theorem dX3_calledBackByLog_27 : decode cX3_calledBackByLog 27 = .ok (.ifnull 19, 3) := by decide +kernel
theorem dX3_calledBackByLog_30 : decode cX3_calledBackByLog 30 = .ok (.aload_n 0, 1) := by decide +kernel
theorem dX3_calledBackByLog_31 : decode cX3_calledBackByLog 31 = .ok (.aload_n 0, 1) := by decide +kernel
theorem dX3_calledBackByLog_32 : decode cX3_calledBackByLog 32 = .ok (.getfield 17, 3) := by decide +kernel
theorem dX3_calledBackByLog_35 : decode cX3_calledBackByLog 35 = .ok (.iload_n 2, 1) := by decide +kernel
theorem dX3_calledBackByLog_36 : decode cX3_calledBackByLog 36 = .ok (.aaload, 1) := by decide +kernel
theorem dX3_calledBackByLog_37 : decode cX3_calledBackByLog 37 = .ok (.invokevirtual 227, 3) := by decide +kernel
theorem dX3_calledBackByLog_40 : decode cX3_calledBackByLog 40 = .ok (.ifCond .eq 6, 3) := by decide +kernel
theorem dX3_calledBackByLog_43 : decode cX3_calledBackByLog 43 = .ok (.iinc 1 1, 3) := by decide +kernel
theorem dX3_calledBackByLog_46 : decode cX3_calledBackByLog 46 = .ok (.iinc 2 1, 3) := by decide +kernel
theorem dX3_calledBackByLog_49 : decode cX3_calledBackByLog 49 = .ok (.goto (-45), 3) := by decide +kernel
theorem dX3_calledBackByLog_52 : decode cX3_calledBackByLog 52 = .ok (.iload_n 1, 1) := by decide +kernel
theorem dX3_calledBackByLog_53 : decode cX3_calledBackByLog 53 = .ok (.ireturn, 1) := by decide +kernel
theorem dX3_atStake_0 : decode cX3_atStake 0 = .ok (.aload_n 0, 1) := by decide +kernel
theorem dX3_atStake_1 : decode cX3_atStake 1 = .ok (.iload_n 1, 1) := by decide +kernel
theorem dX3_atStake_2 : decode cX3_atStake 2 = .ok (.invokevirtual 54, 3) := by decide +kernel
theorem dX3_atStake_5 : decode cX3_atStake 5 = .ok (.astore_n 2, 1) := by decide +kernel
theorem dX3_atStake_6 : decode cX3_atStake 6 = .ok (.aload_n 2, 1) := by decide +kernel
theorem dX3_atStake_7 : decode cX3_atStake 7 = .ok (.getfield 95, 3) := by decide +kernel
theorem dX3_atStake_10 : decode cX3_atStake 10 = .ok (.ifnonnull 7, 3) := by decide +kernel
theorem dX3_atStake_13 : decode cX3_atStake 13 = .ok (.iconst 0, 1) := by decide +kernel
theorem dX3_atStake_14 : decode cX3_atStake 14 = .ok (.goto 11, 3) := by decide +kernel
theorem dX3_atStake_17 : decode cX3_atStake 17 = .ok (.aload_n 0, 1) := by decide +kernel
theorem dX3_atStake_18 : decode cX3_atStake 18 = .ok (.aload_n 2, 1) := by decide +kernel
theorem dX3_atStake_19 : decode cX3_atStake 19 = .ok (.getfield 95, 3) := by decide +kernel
theorem dX3_atStake_22 : decode cX3_atStake 22 = .ok (.invokevirtual 231, 3) := by decide +kernel
theorem dX3_atStake_25 : decode cX3_atStake 25 = .ok (.ireturn, 1) := by decide +kernel
theorem dX3_restsOn_0 : decode cX3_restsOn 0 = .ok (.aload_n 0, 1) := by decide +kernel
theorem dX3_restsOn_1 : decode cX3_restsOn 1 = .ok (.astore_n 3, 1) := by decide +kernel
theorem dX3_restsOn_2 : decode cX3_restsOn 2 = .ok (.aload_n 3, 1) := by decide +kernel
theorem dX3_restsOn_3 : decode cX3_restsOn 3 = .ok (.ifnull 28, 3) := by decide +kernel
theorem dX3_restsOn_6 : decode cX3_restsOn 6 = .ok (.aload_n 3, 1) := by decide +kernel
theorem dX3_restsOn_7 : decode cX3_restsOn 7 = .ok (.aload_n 1, 1) := by decide +kernel
theorem dX3_restsOn_8 : decode cX3_restsOn 8 = .ok (.if_acmp .ne 5, 3) := by decide +kernel
theorem dX3_restsOn_11 : decode cX3_restsOn 11 = .ok (.iconst 1, 1) := by decide +kernel
theorem dX3_restsOn_12 : decode cX3_restsOn 12 = .ok (.ireturn, 1) := by decide +kernel
theorem dX3_restsOn_13 : decode cX3_restsOn 13 = .ok (.aload_n 3, 1) := by decide +kernel
theorem dX3_restsOn_14 : decode cX3_restsOn 14 = .ok (.getfield 162, 3) := by decide +kernel
theorem dX3_restsOn_17 : decode cX3_restsOn 17 = .ok (.iload_n 2, 1) := by decide +kernel
theorem dX3_restsOn_18 : decode cX3_restsOn 18 = .ok (.if_icmp .ge 5, 3) := by decide +kernel
theorem dX3_restsOn_21 : decode cX3_restsOn 21 = .ok (.iconst 0, 1) := by decide +kernel
theorem dX3_restsOn_22 : decode cX3_restsOn 22 = .ok (.ireturn, 1) := by decide +kernel
theorem dX3_restsOn_23 : decode cX3_restsOn 23 = .ok (.aload_n 3, 1) := by decide +kernel
theorem dX3_restsOn_24 : decode cX3_restsOn 24 = .ok (.getfield 234, 3) := by decide +kernel
theorem dX3_restsOn_27 : decode cX3_restsOn 27 = .ok (.astore_n 3, 1) := by decide +kernel
theorem dX3_restsOn_28 : decode cX3_restsOn 28 = .ok (.goto (-26), 3) := by decide +kernel
theorem dX3_restsOn_31 : decode cX3_restsOn 31 = .ok (.iconst 0, 1) := by decide +kernel
theorem dX3_restsOn_32 : decode cX3_restsOn 32 = .ok (.ireturn, 1) := by decide +kernel
theorem dX3_isAtStake_0 : decode cX3_isAtStake 0 = .ok (.aload_n 1, 1) := by decide +kernel
theorem dX3_isAtStake_1 : decode cX3_isAtStake 1 = .ok (.ifnull 29, 3) := by decide +kernel
theorem dX3_isAtStake_4 : decode cX3_isAtStake 4 = .ok (.aload_n 1, 1) := by decide +kernel
theorem dX3_isAtStake_5 : decode cX3_isAtStake 5 = .ok (.getfield 221, 3) := by decide +kernel
theorem dX3_isAtStake_8 : decode cX3_isAtStake 8 = .ok (.ifCond .ne 22, 3) := by decide +kernel
theorem dX3_isAtStake_11 : decode cX3_isAtStake 11 = .ok (.aload_n 1, 1) := by decide +kernel
theorem dX3_isAtStake_12 : decode cX3_isAtStake 12 = .ok (.getfield 237, 3) := by decide +kernel
theorem dX3_isAtStake_15 : decode cX3_isAtStake 15 = .ok (.aload_n 2, 1) := by decide +kernel
theorem dX3_isAtStake_16 : decode cX3_isAtStake 16 = .ok (.aload_n 0, 1) := by decide +kernel
theorem dX3_isAtStake_17 : decode cX3_isAtStake 17 = .ok (.getfield 99, 3) := by decide +kernel
theorem dX3_isAtStake_20 : decode cX3_isAtStake 20 = .ok (.invokestatic 238, 3) := by decide +kernel
theorem dX3_isAtStake_23 : decode cX3_isAtStake 23 = .ok (.ifCond .eq 7, 3) := by decide +kernel
theorem dX3_isAtStake_26 : decode cX3_isAtStake 26 = .ok (.iconst 1, 1) := by decide +kernel
theorem dX3_isAtStake_27 : decode cX3_isAtStake 27 = .ok (.goto 4, 3) := by decide +kernel
theorem dX3_isAtStake_30 : decode cX3_isAtStake 30 = .ok (.iconst 0, 1) := by decide +kernel
theorem dX3_isAtStake_31 : decode cX3_isAtStake 31 = .ok (.ireturn, 1) := by decide +kernel
theorem dX3_countAtStake_0 : decode cX3_countAtStake 0 = .ok (.iconst 0, 1) := by decide +kernel
theorem dX3_countAtStake_1 : decode cX3_countAtStake 1 = .ok (.istore_n 2, 1) := by decide +kernel
theorem dX3_countAtStake_2 : decode cX3_countAtStake 2 = .ok (.iconst 0, 1) := by decide +kernel
theorem dX3_countAtStake_3 : decode cX3_countAtStake 3 = .ok (.istore_n 3, 1) := by decide +kernel
theorem dX3_countAtStake_4 : decode cX3_countAtStake 4 = .ok (.iload_n 3, 1) := by decide +kernel
theorem dX3_countAtStake_5 : decode cX3_countAtStake 5 = .ok (.aload_n 0, 1) := by decide +kernel
theorem dX3_countAtStake_6 : decode cX3_countAtStake 6 = .ok (.getfield 113, 3) := by decide +kernel
theorem dX3_countAtStake_9 : decode cX3_countAtStake 9 = .ok (.if_icmp .ge 35, 3) := by decide +kernel
theorem dX3_countAtStake_12 : decode cX3_countAtStake 12 = .ok (.iload_n 3, 1) := by decide +kernel
theorem dX3_countAtStake_13 : decode cX3_countAtStake 13 = .ok (.aload_n 0, 1) := by decide +kernel
theorem dX3_countAtStake_14 : decode cX3_countAtStake 14 = .ok (.getfield 17, 3) := by decide +kernel
theorem dX3_countAtStake_17 : decode cX3_countAtStake 17 = .ok (.arraylength, 1) := by decide +kernel
theorem dX3_countAtStake_18 : decode cX3_countAtStake 18 = .ok (.if_icmp .ge 26, 3) := by decide +kernel
theorem dX3_countAtStake_21 : decode cX3_countAtStake 21 = .ok (.aload_n 0, 1) := by decide +kernel
theorem dX3_countAtStake_22 : decode cX3_countAtStake 22 = .ok (.aload_n 0, 1) := by decide +kernel
theorem dX3_countAtStake_23 : decode cX3_countAtStake 23 = .ok (.getfield 17, 3) := by decide +kernel
theorem dX3_countAtStake_26 : decode cX3_countAtStake 26 = .ok (.iload_n 3, 1) := by decide +kernel
theorem dX3_countAtStake_27 : decode cX3_countAtStake 27 = .ok (.aaload, 1) := by decide +kernel
theorem dX3_countAtStake_28 : decode cX3_countAtStake 28 = .ok (.aload_n 1, 1) := by decide +kernel
theorem dX3_countAtStake_29 : decode cX3_countAtStake 29 = .ok (.invokevirtual 242, 3) := by decide +kernel
theorem dX3_countAtStake_32 : decode cX3_countAtStake 32 = .ok (.ifCond .eq 6, 3) := by decide +kernel
theorem dX3_countAtStake_35 : decode cX3_countAtStake 35 = .ok (.iinc 2 1, 3) := by decide +kernel
theorem dX3_countAtStake_38 : decode cX3_countAtStake 38 = .ok (.iinc 3 1, 3) := by decide +kernel
theorem dX3_countAtStake_41 : decode cX3_countAtStake 41 = .ok (.goto (-37), 3) := by decide +kernel
theorem dX3_countAtStake_44 : decode cX3_countAtStake 44 = .ok (.iload_n 2, 1) := by decide +kernel
theorem dX3_countAtStake_45 : decode cX3_countAtStake 45 = .ok (.ireturn, 1) := by decide +kernel
theorem dX3_callBack_0 : decode cX3_callBack 0 = .ok (.iconst 0, 1) := by decide +kernel
theorem dX3_callBack_1 : decode cX3_callBack 1 = .ok (.istore_n 2, 1) := by decide +kernel
theorem dX3_callBack_2 : decode cX3_callBack 2 = .ok (.iconst 0, 1) := by decide +kernel
theorem dX3_callBack_3 : decode cX3_callBack 3 = .ok (.istore_n 3, 1) := by decide +kernel
theorem dX3_callBack_4 : decode cX3_callBack 4 = .ok (.iload_n 3, 1) := by decide +kernel
theorem dX3_callBack_5 : decode cX3_callBack 5 = .ok (.aload_n 0, 1) := by decide +kernel
theorem dX3_callBack_6 : decode cX3_callBack 6 = .ok (.getfield 113, 3) := by decide +kernel
theorem dX3_callBack_9 : decode cX3_callBack 9 = .ok (.if_icmp .ge 50, 3) := by decide +kernel
theorem dX3_callBack_12 : decode cX3_callBack 12 = .ok (.iload_n 3, 1) := by decide +kernel
theorem dX3_callBack_13 : decode cX3_callBack 13 = .ok (.aload_n 0, 1) := by decide +kernel
theorem dX3_callBack_14 : decode cX3_callBack 14 = .ok (.getfield 17, 3) := by decide +kernel
theorem dX3_callBack_17 : decode cX3_callBack 17 = .ok (.arraylength, 1) := by decide +kernel
theorem dX3_callBack_18 : decode cX3_callBack 18 = .ok (.if_icmp .ge 41, 3) := by decide +kernel
theorem dX3_callBack_21 : decode cX3_callBack 21 = .ok (.aload_n 0, 1) := by decide +kernel
theorem dX3_callBack_22 : decode cX3_callBack 22 = .ok (.getfield 17, 3) := by decide +kernel
theorem dX3_callBack_25 : decode cX3_callBack 25 = .ok (.iload_n 3, 1) := by decide +kernel
theorem dX3_callBack_26 : decode cX3_callBack 26 = .ok (.aaload, 1) := by decide +kernel
theorem dX3_callBack_27 : decode cX3_callBack 27 = .ok (.astore 4, 2) := by decide +kernel
theorem dX3_callBack_29 : decode cX3_callBack 29 = .ok (.aload 4, 2) := by decide +kernel
theorem dX3_callBack_31 : decode cX3_callBack 31 = .ok (.ifnull 22, 3) := by decide +kernel
theorem dX3_callBack_34 : decode cX3_callBack 34 = .ok (.aload_n 0, 1) := by decide +kernel
theorem dX3_callBack_35 : decode cX3_callBack 35 = .ok (.aload 4, 2) := by decide +kernel
theorem dX3_callBack_37 : decode cX3_callBack 37 = .ok (.aload_n 1, 1) := by decide +kernel
theorem dX3_callBack_38 : decode cX3_callBack 38 = .ok (.invokevirtual 242, 3) := by decide +kernel
theorem dX3_callBack_41 : decode cX3_callBack 41 = .ok (.ifCond .eq 12, 3) := by decide +kernel
theorem dX3_callBack_44 : decode cX3_callBack 44 = .ok (.aload 4, 2) := by decide +kernel
theorem dX3_callBack_46 : decode cX3_callBack 46 = .ok (.iconst 1, 1) := by decide +kernel
theorem dX3_callBack_47 : decode cX3_callBack 47 = .ok (.putfield 221, 3) := by decide +kernel
theorem dX3_callBack_50 : decode cX3_callBack 50 = .ok (.iinc 2 1, 3) := by decide +kernel
theorem dX3_callBack_53 : decode cX3_callBack 53 = .ok (.iinc 3 1, 3) := by decide +kernel
theorem dX3_callBack_56 : decode cX3_callBack 56 = .ok (.goto (-52), 3) := by decide +kernel
theorem dX3_callBack_59 : decode cX3_callBack 59 = .ok (.aload_n 0, 1) := by decide +kernel
theorem dX3_callBack_60 : decode cX3_callBack 60 = .ok (.dup, 1) := by decide +kernel
theorem dX3_callBack_61 : decode cX3_callBack 61 = .ok (.getfield 224, 3) := by decide +kernel
theorem dX3_callBack_64 : decode cX3_callBack 64 = .ok (.iload_n 2, 1) := by decide +kernel
theorem dX3_callBack_65 : decode cX3_callBack 65 = .ok (.iadd, 1) := by decide +kernel
theorem dX3_callBack_66 : decode cX3_callBack 66 = .ok (.putfield 224, 3) := by decide +kernel
theorem dX3_callBack_69 : decode cX3_callBack 69 = .ok (.aload_n 0, 1) := by decide +kernel
theorem dX3_callBack_70 : decode cX3_callBack 70 = .ok (.getfield 11, 3) := by decide +kernel
theorem dX3_callBack_73 : decode cX3_callBack 73 = .ok (.astore_n 3, 1) := by decide +kernel
theorem dX3_callBack_74 : decode cX3_callBack 74 = .ok (.aload_n 3, 1) := by decide +kernel
theorem dX3_callBack_75 : decode cX3_callBack 75 = .ok (.arraylength, 1) := by decide +kernel
theorem dX3_callBack_76 : decode cX3_callBack 76 = .ok (.istore 4, 2) := by decide +kernel
theorem dX3_callBack_78 : decode cX3_callBack 78 = .ok (.iconst 0, 1) := by decide +kernel
theorem dX3_callBack_79 : decode cX3_callBack 79 = .ok (.istore 5, 2) := by decide +kernel
theorem dX3_callBack_81 : decode cX3_callBack 81 = .ok (.iload 5, 2) := by decide +kernel
theorem dX3_callBack_83 : decode cX3_callBack 83 = .ok (.iload 4, 2) := by decide +kernel
theorem dX3_callBack_85 : decode cX3_callBack 85 = .ok (.if_icmp .ge 56, 3) := by decide +kernel
theorem dX3_callBack_88 : decode cX3_callBack 88 = .ok (.aload_n 3, 1) := by decide +kernel
theorem dX3_callBack_89 : decode cX3_callBack 89 = .ok (.iload 5, 2) := by decide +kernel
theorem dX3_callBack_91 : decode cX3_callBack 91 = .ok (.aaload, 1) := by decide +kernel
theorem dX3_callBack_92 : decode cX3_callBack 92 = .ok (.astore 6, 2) := by decide +kernel
theorem dX3_callBack_94 : decode cX3_callBack 94 = .ok (.aload 6, 2) := by decide +kernel
theorem dX3_callBack_96 : decode cX3_callBack 96 = .ok (.ifnull 39, 3) := by decide +kernel
theorem dX3_callBack_99 : decode cX3_callBack 99 = .ok (.aload 6, 2) := by decide +kernel
theorem dX3_callBack_101 : decode cX3_callBack 101 = .ok (.getfield 95, 3) := by decide +kernel
theorem dX3_callBack_104 : decode cX3_callBack 104 = .ok (.ifnull 31, 3) := by decide +kernel
theorem dX3_callBack_107 : decode cX3_callBack 107 = .ok (.aload 6, 2) := by decide +kernel
theorem dX3_callBack_109 : decode cX3_callBack 109 = .ok (.getfield 95, 3) := by decide +kernel
theorem dX3_callBack_112 : decode cX3_callBack 112 = .ok (.getfield 234, 3) := by decide +kernel
theorem dX3_callBack_115 : decode cX3_callBack 115 = .ok (.aload_n 1, 1) := by decide +kernel
theorem dX3_callBack_116 : decode cX3_callBack 116 = .ok (.aload_n 0, 1) := by decide +kernel
theorem dX3_callBack_117 : decode cX3_callBack 117 = .ok (.getfield 99, 3) := by decide +kernel
theorem dX3_callBack_120 : decode cX3_callBack 120 = .ok (.invokestatic 238, 3) := by decide +kernel
theorem dX3_callBack_123 : decode cX3_callBack 123 = .ok (.ifCond .eq 12, 3) := by decide +kernel
theorem dX3_callBack_126 : decode cX3_callBack 126 = .ok (.aload 6, 2) := by decide +kernel
theorem dX3_callBack_128 : decode cX3_callBack 128 = .ok (.getfield 95, 3) := by decide +kernel
theorem dX3_callBack_131 : decode cX3_callBack 131 = .ok (.iconst 1, 1) := by decide +kernel
theorem dX3_callBack_132 : decode cX3_callBack 132 = .ok (.putfield 186, 3) := by decide +kernel
theorem dX3_callBack_135 : decode cX3_callBack 135 = .ok (.iinc 5 1, 3) := by decide +kernel
theorem dX3_callBack_138 : decode cX3_callBack 138 = .ok (.goto (-57), 3) := by decide +kernel
theorem dX3_callBack_141 : decode cX3_callBack 141 = .ok (.iload_n 2, 1) := by decide +kernel
theorem dX3_callBack_142 : decode cX3_callBack 142 = .ok (.ireturn, 1) := by decide +kernel
theorem dX3_logRecalls_0 : decode cX3_logRecalls 0 = .ok (.iconst 0, 1) := by decide +kernel
theorem dX3_logRecalls_1 : decode cX3_logRecalls 1 = .ok (.istore_n 2, 1) := by decide +kernel
theorem dX3_logRecalls_2 : decode cX3_logRecalls 2 = .ok (.iload_n 2, 1) := by decide +kernel
theorem dX3_logRecalls_3 : decode cX3_logRecalls 3 = .ok (.aload_n 0, 1) := by decide +kernel
theorem dX3_logRecalls_4 : decode cX3_logRecalls 4 = .ok (.getfield 92, 3) := by decide +kernel
theorem dX3_logRecalls_7 : decode cX3_logRecalls 7 = .ok (.if_icmp .ge 67, 3) := by decide +kernel
theorem dX3_logRecalls_10 : decode cX3_logRecalls 10 = .ok (.iload_n 2, 1) := by decide +kernel
theorem dX3_logRecalls_11 : decode cX3_logRecalls 11 = .ok (.aload_n 0, 1) := by decide +kernel
theorem dX3_logRecalls_12 : decode cX3_logRecalls 12 = .ok (.getfield 23, 3) := by decide +kernel
theorem dX3_logRecalls_15 : decode cX3_logRecalls 15 = .ok (.arraylength, 1) := by decide +kernel
theorem dX3_logRecalls_16 : decode cX3_logRecalls 16 = .ok (.if_icmp .ge 58, 3) := by decide +kernel
theorem dX3_logRecalls_19 : decode cX3_logRecalls 19 = .ok (.aload_n 0, 1) := by decide +kernel
theorem dX3_logRecalls_20 : decode cX3_logRecalls 20 = .ok (.getfield 23, 3) := by decide +kernel
theorem dX3_logRecalls_23 : decode cX3_logRecalls 23 = .ok (.iload_n 2, 1) := by decide +kernel
theorem dX3_logRecalls_24 : decode cX3_logRecalls 24 = .ok (.aaload, 1) := by decide +kernel
theorem dX3_logRecalls_25 : decode cX3_logRecalls 25 = .ok (.astore_n 3, 1) := by decide +kernel
theorem dX3_logRecalls_26 : decode cX3_logRecalls 26 = .ok (.aload_n 3, 1) := by decide +kernel
theorem dX3_logRecalls_27 : decode cX3_logRecalls 27 = .ok (.ifnull 41, 3) := by decide +kernel
theorem dX3_logRecalls_30 : decode cX3_logRecalls 30 = .ok (.aload_n 3, 1) := by decide +kernel
theorem dX3_logRecalls_31 : decode cX3_logRecalls 31 = .ok (.getfield 132, 3) := by decide +kernel
theorem dX3_logRecalls_34 : decode cX3_logRecalls 34 = .ok (.ifCond .eq 34, 3) := by decide +kernel
theorem dX3_logRecalls_37 : decode cX3_logRecalls 37 = .ok (.aload_n 3, 1) := by decide +kernel
theorem dX3_logRecalls_38 : decode cX3_logRecalls 38 = .ok (.getfield 161, 3) := by decide +kernel
theorem dX3_logRecalls_41 : decode cX3_logRecalls 41 = .ok (.aload_n 1, 1) := by decide +kernel
theorem dX3_logRecalls_42 : decode cX3_logRecalls 42 = .ok (.getfield 246, 3) := by decide +kernel
theorem dX3_logRecalls_45 : decode cX3_logRecalls 45 = .ok (.if_icmp .le 23, 3) := by decide +kernel
theorem dX3_logRecalls_48 : decode cX3_logRecalls 48 = .ok (.aload_n 1, 1) := by decide +kernel
theorem dX3_logRecalls_49 : decode cX3_logRecalls 49 = .ok (.getfield 237, 3) := by decide +kernel
theorem dX3_logRecalls_52 : decode cX3_logRecalls 52 = .ok (.aload_n 3, 1) := by decide +kernel
theorem dX3_logRecalls_53 : decode cX3_logRecalls 53 = .ok (.getfield 179, 3) := by decide +kernel
theorem dX3_logRecalls_56 : decode cX3_logRecalls 56 = .ok (.aload_n 3, 1) := by decide +kernel
theorem dX3_logRecalls_57 : decode cX3_logRecalls 57 = .ok (.getfield 161, 3) := by decide +kernel
theorem dX3_logRecalls_60 : decode cX3_logRecalls 60 = .ok (.invokestatic 238, 3) := by decide +kernel
theorem dX3_logRecalls_63 : decode cX3_logRecalls 63 = .ok (.ifCond .eq 5, 3) := by decide +kernel
theorem dX3_logRecalls_66 : decode cX3_logRecalls 66 = .ok (.iconst 1, 1) := by decide +kernel
theorem dX3_logRecalls_67 : decode cX3_logRecalls 67 = .ok (.ireturn, 1) := by decide +kernel
theorem dX3_logRecalls_68 : decode cX3_logRecalls 68 = .ok (.iinc 2 1, 3) := by decide +kernel
theorem dX3_logRecalls_71 : decode cX3_logRecalls 71 = .ok (.goto (-69), 3) := by decide +kernel
theorem dX3_logRecalls_74 : decode cX3_logRecalls 74 = .ok (.iconst 0, 1) := by decide +kernel
theorem dX3_logRecalls_75 : decode cX3_logRecalls 75 = .ok (.ireturn, 1) := by decide +kernel
theorem dX3_benchDay_0 : decode cX3_benchDay 0 = .ok (.aload_n 0, 1) := by decide +kernel
theorem dX3_benchDay_1 : decode cX3_benchDay 1 = .ok (.iload_n 1, 1) := by decide +kernel
theorem dX3_benchDay_2 : decode cX3_benchDay 2 = .ok (.invokevirtual 54, 3) := by decide +kernel
theorem dX3_benchDay_5 : decode cX3_benchDay 5 = .ok (.astore_n 3, 1) := by decide +kernel
theorem dX3_benchDay_6 : decode cX3_benchDay 6 = .ok (.iload_n 2, 1) := by decide +kernel
theorem dX3_benchDay_7 : decode cX3_benchDay 7 = .ok (.iconst 1, 1) := by decide +kernel
theorem dX3_benchDay_8 : decode cX3_benchDay 8 = .ok (.if_icmp .lt 9, 3) := by decide +kernel
theorem dX3_benchDay_11 : decode cX3_benchDay 11 = .ok (.iload_n 2, 1) := by decide +kernel
theorem dX3_benchDay_12 : decode cX3_benchDay 12 = .ok (.bipush 12, 2) := by decide +kernel
theorem dX3_benchDay_14 : decode cX3_benchDay 14 = .ok (.if_icmp .le 13, 3) := by decide +kernel
theorem dX3_benchDay_17 : decode cX3_benchDay 17 = .ok (.new 31, 3) := by decide +kernel
theorem dX3_benchDay_20 : decode cX3_benchDay 20 = .ok (.dup, 1) := by decide +kernel
theorem dX3_benchDay_21 : decode cX3_benchDay 21 = .ok (.ldc 247, 2) := by decide +kernel
theorem dX3_benchDay_23 : decode cX3_benchDay 23 = .ok (.invokespecial 35, 3) := by decide +kernel
theorem dX3_benchDay_26 : decode cX3_benchDay 26 = .ok (.athrow, 1) := by decide +kernel
theorem dX3_benchDay_27 : decode cX3_benchDay 27 = .ok (.aload_n 3, 1) := by decide +kernel
theorem dX3_benchDay_28 : decode cX3_benchDay 28 = .ok (.getfield 95, 3) := by decide +kernel
theorem dX3_benchDay_31 : decode cX3_benchDay 31 = .ok (.ifnonnull 7, 3) := by decide +kernel
theorem dX3_benchDay_34 : decode cX3_benchDay 34 = .ok (.iconst (-1), 1) := by decide +kernel
theorem dX3_benchDay_35 : decode cX3_benchDay 35 = .ok (.goto 19, 3) := by decide +kernel
theorem dX3_benchDay_38 : decode cX3_benchDay 38 = .ok (.aload_n 0, 1) := by decide +kernel
theorem dX3_benchDay_39 : decode cX3_benchDay 39 = .ok (.getfield 69, 3) := by decide +kernel
theorem dX3_benchDay_42 : decode cX3_benchDay 42 = .ok (.aload_n 0, 1) := by decide +kernel
theorem dX3_benchDay_43 : decode cX3_benchDay 43 = .ok (.aload_n 3, 1) := by decide +kernel
theorem dX3_benchDay_44 : decode cX3_benchDay 44 = .ok (.aload_n 3, 1) := by decide +kernel
theorem dX3_benchDay_45 : decode cX3_benchDay 45 = .ok (.getfield 95, 3) := by decide +kernel
theorem dX3_benchDay_48 : decode cX3_benchDay 48 = .ok (.invokevirtual 249, 3) := by decide +kernel
theorem dX3_benchDay_51 : decode cX3_benchDay 51 = .ok (.iload_n 2, 1) := by decide +kernel
theorem dX3_benchDay_52 : decode cX3_benchDay 52 = .ok (.idiv, 1) := by decide +kernel
theorem dX3_benchDay_53 : decode cX3_benchDay 53 = .ok (.iadd, 1) := by decide +kernel
theorem dX3_benchDay_54 : decode cX3_benchDay 54 = .ok (.ireturn, 1) := by decide +kernel
theorem dX3_late_0 : decode cX3_late 0 = .ok (.iload_n 1, 1) := by decide +kernel
theorem dX3_late_1 : decode cX3_late 1 = .ok (.iconst 1, 1) := by decide +kernel
theorem dX3_late_2 : decode cX3_late 2 = .ok (.if_icmp .lt 9, 3) := by decide +kernel
theorem dX3_late_5 : decode cX3_late 5 = .ok (.iload_n 1, 1) := by decide +kernel
theorem dX3_late_6 : decode cX3_late 6 = .ok (.bipush 12, 2) := by decide +kernel
theorem dX3_late_8 : decode cX3_late 8 = .ok (.if_icmp .le 13, 3) := by decide +kernel
theorem dX3_late_11 : decode cX3_late 11 = .ok (.new 31, 3) := by decide +kernel
theorem dX3_late_14 : decode cX3_late 14 = .ok (.dup, 1) := by decide +kernel
theorem dX3_late_15 : decode cX3_late 15 = .ok (.ldc 247, 2) := by decide +kernel
theorem dX3_late_17 : decode cX3_late 17 = .ok (.invokespecial 35, 3) := by decide +kernel
theorem dX3_late_20 : decode cX3_late 20 = .ok (.athrow, 1) := by decide +kernel
theorem dX3_late_21 : decode cX3_late 21 = .ok (.iconst 0, 1) := by decide +kernel
theorem dX3_late_22 : decode cX3_late 22 = .ok (.istore_n 2, 1) := by decide +kernel
theorem dX3_late_23 : decode cX3_late 23 = .ok (.aload_n 0, 1) := by decide +kernel
theorem dX3_late_24 : decode cX3_late 24 = .ok (.getfield 11, 3) := by decide +kernel
theorem dX3_late_27 : decode cX3_late 27 = .ok (.astore_n 3, 1) := by decide +kernel
theorem dX3_late_28 : decode cX3_late 28 = .ok (.aload_n 3, 1) := by decide +kernel
theorem dX3_late_29 : decode cX3_late 29 = .ok (.arraylength, 1) := by decide +kernel
theorem dX3_late_30 : decode cX3_late 30 = .ok (.istore 4, 2) := by decide +kernel
theorem dX3_late_32 : decode cX3_late 32 = .ok (.iconst 0, 1) := by decide +kernel
theorem dX3_late_33 : decode cX3_late 33 = .ok (.istore 5, 2) := by decide +kernel
theorem dX3_late_35 : decode cX3_late 35 = .ok (.iload 5, 2) := by decide +kernel
theorem dX3_late_37 : decode cX3_late 37 = .ok (.iload 4, 2) := by decide +kernel
theorem dX3_late_39 : decode cX3_late 39 = .ok (.if_icmp .ge 62, 3) := by decide +kernel
theorem dX3_late_42 : decode cX3_late 42 = .ok (.aload_n 3, 1) := by decide +kernel
theorem dX3_late_43 : decode cX3_late 43 = .ok (.iload 5, 2) := by decide +kernel
theorem dX3_late_45 : decode cX3_late 45 = .ok (.aaload, 1) := by decide +kernel
theorem dX3_late_46 : decode cX3_late 46 = .ok (.astore 6, 2) := by decide +kernel
theorem dX3_late_48 : decode cX3_late 48 = .ok (.aload 6, 2) := by decide +kernel
theorem dX3_late_50 : decode cX3_late 50 = .ok (.ifnull 45, 3) := by decide +kernel
theorem dX3_late_53 : decode cX3_late 53 = .ok (.aload 6, 2) := by decide +kernel
theorem dX3_late_55 : decode cX3_late 55 = .ok (.getfield 95, 3) := by decide +kernel
theorem dX3_late_58 : decode cX3_late 58 = .ok (.ifnull 37, 3) := by decide +kernel
theorem dX3_late_61 : decode cX3_late 61 = .ok (.aload_n 0, 1) := by decide +kernel
theorem dX3_late_62 : decode cX3_late 62 = .ok (.getfield 69, 3) := by decide +kernel
theorem dX3_late_65 : decode cX3_late 65 = .ok (.aload_n 0, 1) := by decide +kernel
theorem dX3_late_66 : decode cX3_late 66 = .ok (.aload 6, 2) := by decide +kernel
theorem dX3_late_68 : decode cX3_late 68 = .ok (.aload 6, 2) := by decide +kernel
theorem dX3_late_70 : decode cX3_late 70 = .ok (.getfield 95, 3) := by decide +kernel
theorem dX3_late_73 : decode cX3_late 73 = .ok (.invokevirtual 249, 3) := by decide +kernel
theorem dX3_late_76 : decode cX3_late 76 = .ok (.iload_n 1, 1) := by decide +kernel
theorem dX3_late_77 : decode cX3_late 77 = .ok (.idiv, 1) := by decide +kernel
theorem dX3_late_78 : decode cX3_late 78 = .ok (.iadd, 1) := by decide +kernel
theorem dX3_late_79 : decode cX3_late 79 = .ok (.aload 6, 2) := by decide +kernel
theorem dX3_late_81 : decode cX3_late 81 = .ok (.aload 6, 2) := by decide +kernel
theorem dX3_late_83 : decode cX3_late 83 = .ok (.getfield 95, 3) := by decide +kernel
theorem dX3_late_86 : decode cX3_late 86 = .ok (.invokestatic 182, 3) := by decide +kernel
theorem dX3_late_89 : decode cX3_late 89 = .ok (.if_icmp .le 6, 3) := by decide +kernel
theorem dX3_late_92 : decode cX3_late 92 = .ok (.iinc 2 1, 3) := by decide +kernel
theorem dX3_late_95 : decode cX3_late 95 = .ok (.iinc 5 1, 3) := by decide +kernel
theorem dX3_late_98 : decode cX3_late 98 = .ok (.goto (-63), 3) := by decide +kernel
theorem dX3_late_101 : decode cX3_late 101 = .ok (.iload_n 2, 1) := by decide +kernel
theorem dX3_late_102 : decode cX3_late 102 = .ok (.ireturn, 1) := by decide +kernel
theorem dX3_countAhead_0 : decode cX3_countAhead 0 = .ok (.aload_n 1, 1) := by decide +kernel
theorem dX3_countAhead_1 : decode cX3_countAhead 1 = .ok (.aload_n 2, 1) := by decide +kernel
theorem dX3_countAhead_2 : decode cX3_countAhead 2 = .ok (.invokestatic 182, 3) := by decide +kernel
theorem dX3_countAhead_5 : decode cX3_countAhead 5 = .ok (.istore_n 3, 1) := by decide +kernel
theorem dX3_countAhead_6 : decode cX3_countAhead 6 = .ok (.iconst 0, 1) := by decide +kernel
theorem dX3_countAhead_7 : decode cX3_countAhead 7 = .ok (.istore 4, 2) := by decide +kernel
theorem dX3_countAhead_9 : decode cX3_countAhead 9 = .ok (.aload_n 0, 1) := by decide +kernel
theorem dX3_countAhead_10 : decode cX3_countAhead 10 = .ok (.getfield 11, 3) := by decide +kernel
theorem dX3_countAhead_13 : decode cX3_countAhead 13 = .ok (.astore 5, 2) := by decide +kernel
theorem dX3_countAhead_15 : decode cX3_countAhead 15 = .ok (.aload 5, 2) := by decide +kernel
theorem dX3_countAhead_17 : decode cX3_countAhead 17 = .ok (.arraylength, 1) := by decide +kernel
theorem dX3_countAhead_18 : decode cX3_countAhead 18 = .ok (.istore 6, 2) := by decide +kernel
theorem dX3_countAhead_20 : decode cX3_countAhead 20 = .ok (.iconst 0, 1) := by decide +kernel
theorem dX3_countAhead_21 : decode cX3_countAhead 21 = .ok (.istore 7, 2) := by decide +kernel
theorem dX3_countAhead_23 : decode cX3_countAhead 23 = .ok (.iload 7, 2) := by decide +kernel
theorem dX3_countAhead_25 : decode cX3_countAhead 25 = .ok (.iload 6, 2) := by decide +kernel
theorem dX3_countAhead_27 : decode cX3_countAhead 27 = .ok (.if_icmp .ge 68, 3) := by decide +kernel
theorem dX3_countAhead_30 : decode cX3_countAhead 30 = .ok (.aload 5, 2) := by decide +kernel
theorem dX3_countAhead_32 : decode cX3_countAhead 32 = .ok (.iload 7, 2) := by decide +kernel
theorem dX3_countAhead_34 : decode cX3_countAhead 34 = .ok (.aaload, 1) := by decide +kernel
theorem dX3_countAhead_35 : decode cX3_countAhead 35 = .ok (.astore 8, 2) := by decide +kernel
theorem dX3_countAhead_37 : decode cX3_countAhead 37 = .ok (.aload 8, 2) := by decide +kernel
theorem dX3_countAhead_39 : decode cX3_countAhead 39 = .ok (.ifnull 50, 3) := by decide +kernel
theorem dX3_countAhead_42 : decode cX3_countAhead 42 = .ok (.aload 8, 2) := by decide +kernel
theorem dX3_countAhead_44 : decode cX3_countAhead 44 = .ok (.getfield 95, 3) := by decide +kernel
theorem dX3_countAhead_47 : decode cX3_countAhead 47 = .ok (.ifnull 42, 3) := by decide +kernel
theorem dX3_countAhead_50 : decode cX3_countAhead 50 = .ok (.aload 8, 2) := by decide +kernel
theorem dX3_countAhead_52 : decode cX3_countAhead 52 = .ok (.aload 8, 2) := by decide +kernel
theorem dX3_countAhead_54 : decode cX3_countAhead 54 = .ok (.getfield 95, 3) := by decide +kernel
theorem dX3_countAhead_57 : decode cX3_countAhead 57 = .ok (.invokestatic 182, 3) := by decide +kernel
theorem dX3_countAhead_60 : decode cX3_countAhead 60 = .ok (.istore 9, 2) := by decide +kernel
theorem dX3_countAhead_62 : decode cX3_countAhead 62 = .ok (.iload 9, 2) := by decide +kernel
theorem dX3_countAhead_64 : decode cX3_countAhead 64 = .ok (.iload_n 3, 1) := by decide +kernel
theorem dX3_countAhead_65 : decode cX3_countAhead 65 = .ok (.if_icmp .lt 21, 3) := by decide +kernel
theorem dX3_countAhead_68 : decode cX3_countAhead 68 = .ok (.iload 9, 2) := by decide +kernel
theorem dX3_countAhead_70 : decode cX3_countAhead 70 = .ok (.iload_n 3, 1) := by decide +kernel
theorem dX3_countAhead_71 : decode cX3_countAhead 71 = .ok (.if_icmp .ne 18, 3) := by decide +kernel
theorem dX3_countAhead_74 : decode cX3_countAhead 74 = .ok (.aload 8, 2) := by decide +kernel
theorem dX3_countAhead_76 : decode cX3_countAhead 76 = .ok (.getfield 77, 3) := by decide +kernel
theorem dX3_countAhead_79 : decode cX3_countAhead 79 = .ok (.aload_n 1, 1) := by decide +kernel
theorem dX3_countAhead_80 : decode cX3_countAhead 80 = .ok (.getfield 77, 3) := by decide +kernel
theorem dX3_countAhead_83 : decode cX3_countAhead 83 = .ok (.if_icmp .ge 6, 3) := by decide +kernel
theorem dX3_countAhead_86 : decode cX3_countAhead 86 = .ok (.iinc 4 1, 3) := by decide +kernel
theorem dX3_countAhead_89 : decode cX3_countAhead 89 = .ok (.iinc 7 1, 3) := by decide +kernel
theorem dX3_countAhead_92 : decode cX3_countAhead 92 = .ok (.goto (-69), 3) := by decide +kernel
theorem dX3_countAhead_95 : decode cX3_countAhead 95 = .ok (.iload 4, 2) := by decide +kernel
theorem dX3_countAhead_97 : decode cX3_countAhead 97 = .ok (.ireturn, 1) := by decide +kernel
theorem dX4_init_0 : decode cX4_init 0 = .ok (.aload_n 0, 1) := by decide +kernel
theorem dX4_init_1 : decode cX4_init 1 = .ok (.invokespecial 1, 3) := by decide +kernel
theorem dX4_init_4 : decode cX4_init 4 = .ok (.aload_n 0, 1) := by decide +kernel
theorem dX4_init_5 : decode cX4_init 5 = .ok (.bipush 12, 2) := by decide +kernel
theorem dX4_init_7 : decode cX4_init 7 = .ok (.newarray .int, 2) := by decide +kernel
theorem dX4_init_9 : decode cX4_init 9 = .ok (.putfield 7, 3) := by decide +kernel
theorem dX4_init_12 : decode cX4_init 12 = .ok (.aload_n 0, 1) := by decide +kernel
theorem dX4_init_13 : decode cX4_init 13 = .ok (.bipush 12, 2) := by decide +kernel
theorem dX4_init_15 : decode cX4_init 15 = .ok (.newarray .int, 2) := by decide +kernel
theorem dX4_init_17 : decode cX4_init 17 = .ok (.putfield 13, 3) := by decide +kernel
theorem dX4_init_20 : decode cX4_init 20 = .ok (.aload_n 0, 1) := by decide +kernel
theorem dX4_init_21 : decode cX4_init 21 = .ok (.bipush 12, 2) := by decide +kernel
theorem dX4_init_23 : decode cX4_init 23 = .ok (.newarray .int, 2) := by decide +kernel
theorem dX4_init_25 : decode cX4_init 25 = .ok (.putfield 16, 3) := by decide +kernel
theorem dX4_init_28 : decode cX4_init 28 = .ok (.aload_n 0, 1) := by decide +kernel
theorem dX4_init_29 : decode cX4_init 29 = .ok (.bipush 12, 2) := by decide +kernel
theorem dX4_init_31 : decode cX4_init 31 = .ok (.newarray .int, 2) := by decide +kernel
theorem dX4_init_33 : decode cX4_init 33 = .ok (.putfield 19, 3) := by decide +kernel
theorem dX4_init_36 : decode cX4_init 36 = .ok (.aload_n 0, 1) := by decide +kernel
theorem dX4_init_37 : decode cX4_init 37 = .ok (.bipush 12, 2) := by decide +kernel
theorem dX4_init_39 : decode cX4_init 39 = .ok (.newarray .int, 2) := by decide +kernel
theorem dX4_init_41 : decode cX4_init 41 = .ok (.putfield 22, 3) := by decide +kernel
theorem dX4_init_44 : decode cX4_init 44 = .ok (.aload_n 0, 1) := by decide +kernel
theorem dX4_init_45 : decode cX4_init 45 = .ok (.bipush 12, 2) := by decide +kernel
theorem dX4_init_47 : decode cX4_init 47 = .ok (.newarray .int, 2) := by decide +kernel
theorem dX4_init_49 : decode cX4_init 49 = .ok (.putfield 25, 3) := by decide +kernel
theorem dX4_init_52 : decode cX4_init 52 = .ok (.aload_n 0, 1) := by decide +kernel
theorem dX4_init_53 : decode cX4_init 53 = .ok (.bipush 12, 2) := by decide +kernel
theorem dX4_init_55 : decode cX4_init 55 = .ok (.newarray .int, 2) := by decide +kernel
theorem dX4_init_57 : decode cX4_init 57 = .ok (.putfield 28, 3) := by decide +kernel
theorem dX4_init_60 : decode cX4_init 60 = .ok (.aload_n 0, 1) := by decide +kernel
theorem dX4_init_61 : decode cX4_init 61 = .ok (.bipush 12, 2) := by decide +kernel
theorem dX4_init_63 : decode cX4_init 63 = .ok (.newarray .int, 2) := by decide +kernel
theorem dX4_init_65 : decode cX4_init 65 = .ok (.putfield 31, 3) := by decide +kernel
theorem dX4_init_68 : decode cX4_init 68 = .ok (.aload_n 0, 1) := by decide +kernel
theorem dX4_init_69 : decode cX4_init 69 = .ok (.bipush 12, 2) := by decide +kernel
theorem dX4_init_71 : decode cX4_init 71 = .ok (.newarray .int, 2) := by decide +kernel
theorem dX4_init_73 : decode cX4_init 73 = .ok (.putfield 34, 3) := by decide +kernel
theorem dX4_init_76 : decode cX4_init 76 = .ok (.aload_n 0, 1) := by decide +kernel
theorem dX4_init_77 : decode cX4_init 77 = .ok (.bipush 12, 2) := by decide +kernel
theorem dX4_init_79 : decode cX4_init 79 = .ok (.newarray .boolean, 2) := by decide +kernel
theorem dX4_init_81 : decode cX4_init 81 = .ok (.putfield 37, 3) := by decide +kernel
theorem dX4_init_84 : decode cX4_init 84 = .ok (.aload_n 0, 1) := by decide +kernel
theorem dX4_init_85 : decode cX4_init 85 = .ok (.bipush 12, 2) := by decide +kernel
theorem dX4_init_87 : decode cX4_init 87 = .ok (.newarray .int, 2) := by decide +kernel
theorem dX4_init_89 : decode cX4_init 89 = .ok (.putfield 41, 3) := by decide +kernel
theorem dX4_init_92 : decode cX4_init 92 = .ok (.aload_n 0, 1) := by decide +kernel
theorem dX4_init_93 : decode cX4_init 93 = .ok (.bipush 12, 2) := by decide +kernel
theorem dX4_init_95 : decode cX4_init 95 = .ok (.newarray .int, 2) := by decide +kernel
theorem dX4_init_97 : decode cX4_init 97 = .ok (.putfield 44, 3) := by decide +kernel
theorem dX4_init_100 : decode cX4_init 100 = .ok (.aload_n 0, 1) := by decide +kernel
theorem dX4_init_101 : decode cX4_init 101 = .ok (.bipush 96, 2) := by decide +kernel
theorem dX4_init_103 : decode cX4_init 103 = .ok (.newarray .int, 2) := by decide +kernel
theorem dX4_init_105 : decode cX4_init 105 = .ok (.putfield 47, 3) := by decide +kernel
theorem dX4_init_108 : decode cX4_init 108 = .ok (.aload_n 0, 1) := by decide +kernel
theorem dX4_init_109 : decode cX4_init 109 = .ok (.bipush 96, 2) := by decide +kernel
theorem dX4_init_111 : decode cX4_init 111 = .ok (.newarray .int, 2) := by decide +kernel
theorem dX4_init_113 : decode cX4_init 113 = .ok (.putfield 50, 3) := by decide +kernel
theorem dX4_init_116 : decode cX4_init 116 = .ok (.aload_n 0, 1) := by decide +kernel
theorem dX4_init_117 : decode cX4_init 117 = .ok (.sipush 200, 3) := by decide +kernel
theorem dX4_init_120 : decode cX4_init 120 = .ok (.newarray .int, 2) := by decide +kernel
theorem dX4_init_122 : decode cX4_init 122 = .ok (.putfield 53, 3) := by decide +kernel
theorem dX4_init_125 : decode cX4_init 125 = .ok (.aload_n 0, 1) := by decide +kernel
theorem dX4_init_126 : decode cX4_init 126 = .ok (.sipush 200, 3) := by decide +kernel
theorem dX4_init_129 : decode cX4_init 129 = .ok (.newarray .int, 2) := by decide +kernel
theorem dX4_init_131 : decode cX4_init 131 = .ok (.putfield 56, 3) := by decide +kernel
theorem dX4_init_134 : decode cX4_init 134 = .ok (.aload_n 0, 1) := by decide +kernel
theorem dX4_init_135 : decode cX4_init 135 = .ok (.sipush 200, 3) := by decide +kernel
theorem dX4_init_138 : decode cX4_init 138 = .ok (.newarray .boolean, 2) := by decide +kernel
theorem dX4_init_140 : decode cX4_init 140 = .ok (.putfield 59, 3) := by decide +kernel
theorem dX4_init_143 : decode cX4_init 143 = .ok (.return_, 1) := by decide +kernel
theorem dX4_thrown_0 : decode cX4_thrown 0 = .ok (.aload_n 0, 1) := by decide +kernel
theorem dX4_thrown_1 : decode cX4_thrown 1 = .ok (.getfield 62, 3) := by decide +kernel
theorem dX4_thrown_4 : decode cX4_thrown 4 = .ok (.ireturn, 1) := by decide +kernel
theorem dX4_holds_0 : decode cX4_holds 0 = .ok (.aload_n 0, 1) := by decide +kernel
theorem dX4_holds_1 : decode cX4_holds 1 = .ok (.iload_n 1, 1) := by decide +kernel
theorem dX4_holds_2 : decode cX4_holds 2 = .ok (.putfield 62, 3) := by decide +kernel
theorem dX4_holds_5 : decode cX4_holds 5 = .ok (.iload_n 1, 1) := by decide +kernel
theorem dX4_holds_6 : decode cX4_holds 6 = .ok (.ifCond .ne 7, 3) := by decide +kernel
theorem dX4_holds_9 : decode cX4_holds 9 = .ok (.iconst 1, 1) := by decide +kernel
theorem dX4_holds_10 : decode cX4_holds 10 = .ok (.goto 4, 3) := by decide +kernel
theorem dX4_holds_13 : decode cX4_holds 13 = .ok (.iconst 0, 1) := by decide +kernel
theorem dX4_holds_14 : decode cX4_holds 14 = .ok (.ireturn, 1) := by decide +kernel
theorem dX4_isInstrument_0 : decode cX4_isInstrument 0 = .ok (.iload_n 1, 1) := by decide +kernel
theorem dX4_isInstrument_1 : decode cX4_isInstrument 1 = .ok (.ifCond .lt 15, 3) := by decide +kernel
theorem dX4_isInstrument_4 : decode cX4_isInstrument 4 = .ok (.iload_n 1, 1) := by decide +kernel
theorem dX4_isInstrument_5 : decode cX4_isInstrument 5 = .ok (.aload_n 0, 1) := by decide +kernel
theorem dX4_isInstrument_6 : decode cX4_isInstrument 6 = .ok (.getfield 66, 3) := by decide +kernel
theorem dX4_isInstrument_9 : decode cX4_isInstrument 9 = .ok (.if_icmp .ge 7, 3) := by decide +kernel
theorem dX4_isInstrument_12 : decode cX4_isInstrument 12 = .ok (.iconst 1, 1) := by decide +kernel
theorem dX4_isInstrument_13 : decode cX4_isInstrument 13 = .ok (.goto 4, 3) := by decide +kernel
theorem dX4_isInstrument_16 : decode cX4_isInstrument 16 = .ok (.iconst 0, 1) := by decide +kernel
theorem dX4_isInstrument_17 : decode cX4_isInstrument 17 = .ok (.ireturn, 1) := by decide +kernel
theorem dX4_unsigned_0 : decode cX4_unsigned 0 = .ok (.iload_n 0, 1) := by decide +kernel
theorem dX4_unsigned_1 : decode cX4_unsigned 1 = .ok (.ifCond .ge 8, 3) := by decide +kernel
theorem dX4_unsigned_4 : decode cX4_unsigned 4 = .ok (.iload_n 0, 1) := by decide +kernel
theorem dX4_unsigned_5 : decode cX4_unsigned 5 = .ok (.ineg, 1) := by decide +kernel
theorem dX4_unsigned_6 : decode cX4_unsigned 6 = .ok (.goto 4, 3) := by decide +kernel
theorem dX4_unsigned_9 : decode cX4_unsigned 9 = .ok (.iload_n 0, 1) := by decide +kernel
theorem dX4_unsigned_10 : decode cX4_unsigned 10 = .ok (.ireturn, 1) := by decide +kernel
theorem dX4_isCalibrated_0 : decode cX4_isCalibrated 0 = .ok (.aload_n 0, 1) := by decide +kernel
theorem dX4_isCalibrated_1 : decode cX4_isCalibrated 1 = .ok (.getfield 22, 3) := by decide +kernel
theorem dX4_isCalibrated_4 : decode cX4_isCalibrated 4 = .ok (.iload_n 1, 1) := by decide +kernel
theorem dX4_isCalibrated_5 : decode cX4_isCalibrated 5 = .ok (.iaload, 1) := by decide +kernel
theorem dX4_isCalibrated_6 : decode cX4_isCalibrated 6 = .ok (.ifCond .le 7, 3) := by decide +kernel
theorem dX4_isCalibrated_9 : decode cX4_isCalibrated 9 = .ok (.iconst 1, 1) := by decide +kernel
theorem dX4_isCalibrated_10 : decode cX4_isCalibrated 10 = .ok (.goto 4, 3) := by decide +kernel
theorem dX4_isCalibrated_13 : decode cX4_isCalibrated 13 = .ok (.iconst 0, 1) := by decide +kernel
theorem dX4_isCalibrated_14 : decode cX4_isCalibrated 14 = .ok (.ireturn, 1) := by decide +kernel
theorem dX4_tell_0 : decode cX4_tell 0 = .ok (.iload_n 1, 1) := by decide +kernel
theorem dX4_tell_1 : decode cX4_tell 1 = .ok (.iconst (-1), 1) := by decide +kernel
theorem dX4_tell_2 : decode cX4_tell 2 = .ok (.if_icmp .eq 11, 3) := by decide +kernel
theorem dX4_tell_5 : decode cX4_tell 5 = .ok (.aload_n 0, 1) := by decide +kernel
theorem dX4_tell_6 : decode cX4_tell 6 = .ok (.iload_n 1, 1) := by decide +kernel
theorem dX4_tell_7 : decode cX4_tell 7 = .ok (.invokevirtual 69, 3) := by decide +kernel
theorem dX4_tell_10 : decode cX4_tell 10 = .ok (.ifCond .eq 7, 3) := by decide +kernel
theorem dX4_tell_13 : decode cX4_tell 13 = .ok (.iconst 1, 1) := by decide +kernel
theorem dX4_tell_14 : decode cX4_tell 14 = .ok (.goto 4, 3) := by decide +kernel
theorem dX4_tell_17 : decode cX4_tell 17 = .ok (.iconst 0, 1) := by decide +kernel
theorem dX4_tell_18 : decode cX4_tell 18 = .ok (.istore 5, 2) := by decide +kernel
theorem dX4_tell_20 : decode cX4_tell 20 = .ok (.iload_n 2, 1) := by decide +kernel
theorem dX4_tell_21 : decode cX4_tell 21 = .ok (.iconst 1, 1) := by decide +kernel
theorem dX4_tell_22 : decode cX4_tell 22 = .ok (.if_icmp .lt 39, 3) := by decide +kernel
theorem dX4_tell_25 : decode cX4_tell 25 = .ok (.iload_n 2, 1) := by decide +kernel
theorem dX4_tell_26 : decode cX4_tell 26 = .ok (.sipush 9999, 3) := by decide +kernel
theorem dX4_tell_29 : decode cX4_tell 29 = .ok (.if_icmp .gt 32, 3) := by decide +kernel
theorem dX4_tell_32 : decode cX4_tell 32 = .ok (.iload_n 3, 1) := by decide +kernel
theorem dX4_tell_33 : decode cX4_tell 33 = .ok (.ifCond .lt 28, 3) := by decide +kernel
theorem dX4_tell_36 : decode cX4_tell 36 = .ok (.iload_n 3, 1) := by decide +kernel
theorem dX4_tell_37 : decode cX4_tell 37 = .ok (.sipush 999, 3) := by decide +kernel
theorem dX4_tell_40 : decode cX4_tell 40 = .ok (.if_icmp .gt 21, 3) := by decide +kernel
theorem dX4_tell_43 : decode cX4_tell 43 = .ok (.iload 4, 2) := by decide +kernel
theorem dX4_tell_45 : decode cX4_tell 45 = .ok (.iconst 1, 1) := by decide +kernel
theorem dX4_tell_46 : decode cX4_tell 46 = .ok (.if_icmp .lt 15, 3) := by decide +kernel
theorem dX4_tell_49 : decode cX4_tell 49 = .ok (.iload 4, 2) := by decide +kernel
theorem dX4_tell_51 : decode cX4_tell 51 = .ok (.sipush 999, 3) := by decide +kernel
theorem dX4_tell_54 : decode cX4_tell 54 = .ok (.if_icmp .gt 7, 3) := by decide +kernel
theorem dX4_tell_57 : decode cX4_tell 57 = .ok (.iconst 1, 1) := by decide +kernel
theorem dX4_tell_58 : decode cX4_tell 58 = .ok (.goto 4, 3) := by decide +kernel
theorem dX4_tell_61 : decode cX4_tell 61 = .ok (.iconst 0, 1) := by decide +kernel
theorem dX4_tell_62 : decode cX4_tell 62 = .ok (.istore 6, 2) := by decide +kernel
theorem dX4_tell_64 : decode cX4_tell 64 = .ok (.aload_n 0, 1) := by decide +kernel
theorem dX4_tell_65 : decode cX4_tell 65 = .ok (.iload 5, 2) := by decide +kernel
theorem dX4_tell_67 : decode cX4_tell 67 = .ok (.ifCond .ne 7, 3) := by decide +kernel
theorem dX4_tell_70 : decode cX4_tell 70 = .ok (.iconst 1, 1) := by decide +kernel
theorem dX4_tell_71 : decode cX4_tell 71 = .ok (.goto 26, 3) := by decide +kernel
theorem dX4_tell_74 : decode cX4_tell 74 = .ok (.iload 6, 2) := by decide +kernel
theorem dX4_tell_76 : decode cX4_tell 76 = .ok (.ifCond .ne 7, 3) := by decide +kernel
theorem dX4_tell_79 : decode cX4_tell 79 = .ok (.iconst 2, 1) := by decide +kernel
theorem dX4_tell_80 : decode cX4_tell 80 = .ok (.goto 17, 3) := by decide +kernel
theorem dX4_tell_83 : decode cX4_tell 83 = .ok (.aload_n 0, 1) := by decide +kernel
theorem dX4_tell_84 : decode cX4_tell 84 = .ok (.getfield 66, 3) := by decide +kernel
theorem dX4_tell_87 : decode cX4_tell 87 = .ok (.bipush 12, 2) := by decide +kernel
theorem dX4_tell_89 : decode cX4_tell 89 = .ok (.if_icmp .ne 7, 3) := by decide +kernel
theorem dX4_tell_92 : decode cX4_tell 92 = .ok (.iconst 3, 1) := by decide +kernel
theorem dX4_tell_93 : decode cX4_tell 93 = .ok (.goto 4, 3) := by decide +kernel
theorem dX4_tell_96 : decode cX4_tell 96 = .ok (.iconst 0, 1) := by decide +kernel
theorem dX4_tell_97 : decode cX4_tell 97 = .ok (.invokevirtual 73, 3) := by decide +kernel
theorem dX4_tell_100 : decode cX4_tell 100 = .ok (.ifCond .ne 5, 3) := by decide +kernel
theorem dX4_tell_103 : decode cX4_tell 103 = .ok (.iconst 0, 1) := by decide +kernel
theorem dX4_tell_104 : decode cX4_tell 104 = .ok (.ireturn, 1) := by decide +kernel
theorem dX4_tell_105 : decode cX4_tell 105 = .ok (.aload_n 0, 1) := by decide +kernel
theorem dX4_tell_106 : decode cX4_tell 106 = .ok (.getfield 7, 3) := by decide +kernel
theorem dX4_tell_109 : decode cX4_tell 109 = .ok (.aload_n 0, 1) := by decide +kernel
theorem dX4_tell_110 : decode cX4_tell 110 = .ok (.getfield 66, 3) := by decide +kernel
theorem dX4_tell_113 : decode cX4_tell 113 = .ok (.iload_n 1, 1) := by decide +kernel
theorem dX4_tell_114 : decode cX4_tell 114 = .ok (.iastore, 1) := by decide +kernel
theorem dX4_tell_115 : decode cX4_tell 115 = .ok (.aload_n 0, 1) := by decide +kernel
theorem dX4_tell_116 : decode cX4_tell 116 = .ok (.getfield 13, 3) := by decide +kernel
theorem dX4_tell_119 : decode cX4_tell 119 = .ok (.aload_n 0, 1) := by decide +kernel
theorem dX4_tell_120 : decode cX4_tell 120 = .ok (.getfield 66, 3) := by decide +kernel
theorem dX4_tell_123 : decode cX4_tell 123 = .ok (.iload_n 2, 1) := by decide +kernel
theorem dX4_tell_124 : decode cX4_tell 124 = .ok (.iastore, 1) := by decide +kernel
theorem dX4_tell_125 : decode cX4_tell 125 = .ok (.aload_n 0, 1) := by decide +kernel
theorem dX4_tell_126 : decode cX4_tell 126 = .ok (.getfield 16, 3) := by decide +kernel
theorem dX4_tell_129 : decode cX4_tell 129 = .ok (.aload_n 0, 1) := by decide +kernel
theorem dX4_tell_130 : decode cX4_tell 130 = .ok (.getfield 66, 3) := by decide +kernel
theorem dX4_tell_133 : decode cX4_tell 133 = .ok (.iload_n 3, 1) := by decide +kernel
theorem dX4_tell_134 : decode cX4_tell 134 = .ok (.iastore, 1) := by decide +kernel
theorem dX4_tell_135 : decode cX4_tell 135 = .ok (.aload_n 0, 1) := by decide +kernel
theorem dX4_tell_136 : decode cX4_tell 136 = .ok (.getfield 19, 3) := by decide +kernel
theorem dX4_tell_139 : decode cX4_tell 139 = .ok (.aload_n 0, 1) := by decide +kernel
theorem dX4_tell_140 : decode cX4_tell 140 = .ok (.getfield 66, 3) := by decide +kernel
theorem dX4_tell_143 : decode cX4_tell 143 = .ok (.iload 4, 2) := by decide +kernel
theorem dX4_tell_145 : decode cX4_tell 145 = .ok (.iastore, 1) := by decide +kernel
theorem dX4_tell_146 : decode cX4_tell 146 = .ok (.aload_n 0, 1) := by decide +kernel
theorem dX4_tell_147 : decode cX4_tell 147 = .ok (.dup, 1) := by decide +kernel
theorem dX4_tell_148 : decode cX4_tell 148 = .ok (.getfield 66, 3) := by decide +kernel
theorem dX4_tell_151 : decode cX4_tell 151 = .ok (.iconst 1, 1) := by decide +kernel
theorem dX4_tell_152 : decode cX4_tell 152 = .ok (.iadd, 1) := by decide +kernel
theorem dX4_tell_153 : decode cX4_tell 153 = .ok (.putfield 66, 3) := by decide +kernel
theorem dX4_tell_156 : decode cX4_tell 156 = .ok (.aload_n 0, 1) := by decide +kernel
theorem dX4_tell_157 : decode cX4_tell 157 = .ok (.getfield 66, 3) := by decide +kernel
theorem dX4_tell_160 : decode cX4_tell 160 = .ok (.iconst 1, 1) := by decide +kernel
theorem dX4_tell_161 : decode cX4_tell 161 = .ok (.isub, 1) := by decide +kernel
theorem dX4_tell_162 : decode cX4_tell 162 = .ok (.ireturn, 1) := by decide +kernel
theorem dX4_isInChain_0 : decode cX4_isInChain 0 = .ok (.iload_n 2, 1) := by decide +kernel
theorem dX4_isInChain_1 : decode cX4_isInChain 1 = .ok (.istore_n 3, 1) := by decide +kernel
theorem dX4_isInChain_2 : decode cX4_isInChain 2 = .ok (.iload_n 3, 1) := by decide +kernel
theorem dX4_isInChain_3 : decode cX4_isInChain 3 = .ok (.iconst (-1), 1) := by decide +kernel
theorem dX4_isInChain_4 : decode cX4_isInChain 4 = .ok (.if_icmp .eq 18, 3) := by decide +kernel
theorem dX4_isInChain_7 : decode cX4_isInChain 7 = .ok (.iload_n 3, 1) := by decide +kernel
theorem dX4_isInChain_8 : decode cX4_isInChain 8 = .ok (.iload_n 1, 1) := by decide +kernel
theorem dX4_isInChain_9 : decode cX4_isInChain 9 = .ok (.if_icmp .eq 13, 3) := by decide +kernel
theorem dX4_isInChain_12 : decode cX4_isInChain 12 = .ok (.aload_n 0, 1) := by decide +kernel
theorem dX4_isInChain_13 : decode cX4_isInChain 13 = .ok (.getfield 7, 3) := by decide +kernel
theorem dX4_isInChain_16 : decode cX4_isInChain 16 = .ok (.iload_n 3, 1) := by decide +kernel
theorem dX4_isInChain_17 : decode cX4_isInChain 17 = .ok (.iaload, 1) := by decide +kernel
theorem dX4_isInChain_18 : decode cX4_isInChain 18 = .ok (.istore_n 3, 1) := by decide +kernel
theorem dX4_isInChain_19 : decode cX4_isInChain 19 = .ok (.goto (-17), 3) := by decide +kernel
theorem dX4_isInChain_22 : decode cX4_isInChain 22 = .ok (.iload_n 3, 1) := by decide +kernel
theorem dX4_isInChain_23 : decode cX4_isInChain 23 = .ok (.iload_n 1, 1) := by decide +kernel
theorem dX4_isInChain_24 : decode cX4_isInChain 24 = .ok (.if_icmp .ne 7, 3) := by decide +kernel
theorem dX4_isInChain_27 : decode cX4_isInChain 27 = .ok (.iconst 1, 1) := by decide +kernel
theorem dX4_isInChain_28 : decode cX4_isInChain 28 = .ok (.goto 4, 3) := by decide +kernel
theorem dX4_isInChain_31 : decode cX4_isInChain 31 = .ok (.iconst 0, 1) := by decide +kernel
theorem dX4_isInChain_32 : decode cX4_isInChain 32 = .ok (.ireturn, 1) := by decide +kernel
theorem dX4_refer_0 : decode cX4_refer 0 = .ok (.aload_n 0, 1) := by decide +kernel
theorem dX4_refer_1 : decode cX4_refer 1 = .ok (.iload_n 1, 1) := by decide +kernel
theorem dX4_refer_2 : decode cX4_refer 2 = .ok (.invokevirtual 69, 3) := by decide +kernel
theorem dX4_refer_5 : decode cX4_refer 5 = .ok (.ifCond .eq 20, 3) := by decide +kernel
theorem dX4_refer_8 : decode cX4_refer 8 = .ok (.iload_n 2, 1) := by decide +kernel
theorem dX4_refer_9 : decode cX4_refer 9 = .ok (.iconst (-1), 1) := by decide +kernel
theorem dX4_refer_10 : decode cX4_refer 10 = .ok (.if_icmp .eq 11, 3) := by decide +kernel
theorem dX4_refer_13 : decode cX4_refer 13 = .ok (.aload_n 0, 1) := by decide +kernel
theorem dX4_refer_14 : decode cX4_refer 14 = .ok (.iload_n 2, 1) := by decide +kernel
theorem dX4_refer_15 : decode cX4_refer 15 = .ok (.invokevirtual 69, 3) := by decide +kernel
theorem dX4_refer_18 : decode cX4_refer 18 = .ok (.ifCond .eq 7, 3) := by decide +kernel
theorem dX4_refer_21 : decode cX4_refer 21 = .ok (.iconst 1, 1) := by decide +kernel
theorem dX4_refer_22 : decode cX4_refer 22 = .ok (.goto 4, 3) := by decide +kernel
theorem dX4_refer_25 : decode cX4_refer 25 = .ok (.iconst 0, 1) := by decide +kernel
theorem dX4_refer_26 : decode cX4_refer 26 = .ok (.istore_n 3, 1) := by decide +kernel
theorem dX4_refer_27 : decode cX4_refer 27 = .ok (.aload_n 0, 1) := by decide +kernel
theorem dX4_refer_28 : decode cX4_refer 28 = .ok (.iload_n 3, 1) := by decide +kernel
theorem dX4_refer_29 : decode cX4_refer 29 = .ok (.ifCond .ne 7, 3) := by decide +kernel
theorem dX4_refer_32 : decode cX4_refer 32 = .ok (.iconst 1, 1) := by decide +kernel
theorem dX4_refer_33 : decode cX4_refer 33 = .ok (.goto 22, 3) := by decide +kernel
theorem dX4_refer_36 : decode cX4_refer 36 = .ok (.iload_n 2, 1) := by decide +kernel
theorem dX4_refer_37 : decode cX4_refer 37 = .ok (.iconst (-1), 1) := by decide +kernel
theorem dX4_refer_38 : decode cX4_refer 38 = .ok (.if_icmp .eq 16, 3) := by decide +kernel
theorem dX4_refer_41 : decode cX4_refer 41 = .ok (.aload_n 0, 1) := by decide +kernel
theorem dX4_refer_42 : decode cX4_refer 42 = .ok (.iload_n 1, 1) := by decide +kernel
theorem dX4_refer_43 : decode cX4_refer 43 = .ok (.iload_n 2, 1) := by decide +kernel
theorem dX4_refer_44 : decode cX4_refer 44 = .ok (.invokevirtual 76, 3) := by decide +kernel
theorem dX4_refer_47 : decode cX4_refer 47 = .ok (.ifCond .eq 7, 3) := by decide +kernel
theorem dX4_refer_50 : decode cX4_refer 50 = .ok (.iconst 2, 1) := by decide +kernel
theorem dX4_refer_51 : decode cX4_refer 51 = .ok (.goto 4, 3) := by decide +kernel
theorem dX4_refer_54 : decode cX4_refer 54 = .ok (.iconst 0, 1) := by decide +kernel
theorem dX4_refer_55 : decode cX4_refer 55 = .ok (.invokevirtual 73, 3) := by decide +kernel
theorem dX4_refer_58 : decode cX4_refer 58 = .ok (.ifCond .ne 5, 3) := by decide +kernel
theorem dX4_refer_61 : decode cX4_refer 61 = .ok (.iconst 0, 1) := by decide +kernel
theorem dX4_refer_62 : decode cX4_refer 62 = .ok (.ireturn, 1) := by decide +kernel
theorem dX4_refer_63 : decode cX4_refer 63 = .ok (.aload_n 0, 1) := by decide +kernel
theorem dX4_refer_64 : decode cX4_refer 64 = .ok (.getfield 7, 3) := by decide +kernel
theorem dX4_refer_67 : decode cX4_refer 67 = .ok (.iload_n 1, 1) := by decide +kernel
theorem dX4_refer_68 : decode cX4_refer 68 = .ok (.iaload, 1) := by decide +kernel
theorem dX4_refer_69 : decode cX4_refer 69 = .ok (.istore 4, 2) := by decide +kernel
theorem dX4_refer_71 : decode cX4_refer 71 = .ok (.aload_n 0, 1) := by decide +kernel
theorem dX4_refer_72 : decode cX4_refer 72 = .ok (.getfield 7, 3) := by decide +kernel
theorem dX4_refer_75 : decode cX4_refer 75 = .ok (.iload_n 1, 1) := by decide +kernel
theorem dX4_refer_76 : decode cX4_refer 76 = .ok (.iload_n 2, 1) := by decide +kernel
theorem dX4_refer_77 : decode cX4_refer 77 = .ok (.iastore, 1) := by decide +kernel
theorem dX4_refer_78 : decode cX4_refer 78 = .ok (.iload 4, 2) := by decide +kernel
theorem dX4_refer_80 : decode cX4_refer 80 = .ok (.ireturn, 1) := by decide +kernel
theorem dX4_pass_0 : decode cX4_pass 0 = .ok (.aload_n 0, 1) := by decide +kernel
theorem dX4_pass_1 : decode cX4_pass 1 = .ok (.iload_n 1, 1) := by decide +kernel
theorem dX4_pass_2 : decode cX4_pass 2 = .ok (.iconst 1, 1) := by decide +kernel
theorem dX4_pass_3 : decode cX4_pass 3 = .ok (.if_icmp .lt 10, 3) := by decide +kernel
theorem dX4_pass_6 : decode cX4_pass 6 = .ok (.iload_n 1, 1) := by decide +kernel
theorem dX4_pass_7 : decode cX4_pass 7 = .ok (.sipush 999, 3) := by decide +kernel
theorem dX4_pass_10 : decode cX4_pass 10 = .ok (.if_icmp .le 7, 3) := by decide +kernel
theorem dX4_pass_13 : decode cX4_pass 13 = .ok (.iconst 1, 1) := by decide +kernel
theorem dX4_pass_14 : decode cX4_pass 14 = .ok (.goto 4, 3) := by decide +kernel
theorem dX4_pass_17 : decode cX4_pass 17 = .ok (.iconst 0, 1) := by decide +kernel
theorem dX4_pass_18 : decode cX4_pass 18 = .ok (.invokevirtual 73, 3) := by decide +kernel
theorem dX4_pass_21 : decode cX4_pass 21 = .ok (.ifCond .ne 5, 3) := by decide +kernel
theorem dX4_pass_24 : decode cX4_pass 24 = .ok (.iconst 0, 1) := by decide +kernel
theorem dX4_pass_25 : decode cX4_pass 25 = .ok (.ireturn, 1) := by decide +kernel
theorem dX4_pass_26 : decode cX4_pass 26 = .ok (.aload_n 0, 1) := by decide +kernel
theorem dX4_pass_27 : decode cX4_pass 27 = .ok (.dup, 1) := by decide +kernel
theorem dX4_pass_28 : decode cX4_pass 28 = .ok (.getfield 80, 3) := by decide +kernel
theorem dX4_pass_31 : decode cX4_pass 31 = .ok (.iload_n 1, 1) := by decide +kernel
theorem dX4_pass_32 : decode cX4_pass 32 = .ok (.iadd, 1) := by decide +kernel
theorem dX4_pass_33 : decode cX4_pass 33 = .ok (.putfield 80, 3) := by decide +kernel
theorem dX4_pass_36 : decode cX4_pass 36 = .ok (.aload_n 0, 1) := by decide +kernel
theorem dX4_pass_37 : decode cX4_pass 37 = .ok (.getfield 80, 3) := by decide +kernel
theorem dX4_pass_40 : decode cX4_pass 40 = .ok (.ireturn, 1) := by decide +kernel
theorem dX4_today_0 : decode cX4_today 0 = .ok (.aload_n 0, 1) := by decide +kernel
theorem dX4_today_1 : decode cX4_today 1 = .ok (.iconst 0, 1) := by decide +kernel
theorem dX4_today_2 : decode cX4_today 2 = .ok (.putfield 62, 3) := by decide +kernel
theorem dX4_today_5 : decode cX4_today 5 = .ok (.aload_n 0, 1) := by decide +kernel
theorem dX4_today_6 : decode cX4_today 6 = .ok (.getfield 80, 3) := by decide +kernel
theorem dX4_today_9 : decode cX4_today 9 = .ok (.ireturn, 1) := by decide +kernel
theorem dX4_instruments_0 : decode cX4_instruments 0 = .ok (.aload_n 0, 1) := by decide +kernel
theorem dX4_instruments_1 : decode cX4_instruments 1 = .ok (.iconst 0, 1) := by decide +kernel
theorem dX4_instruments_2 : decode cX4_instruments 2 = .ok (.putfield 62, 3) := by decide +kernel
theorem dX4_instruments_5 : decode cX4_instruments 5 = .ok (.aload_n 0, 1) := by decide +kernel
theorem dX4_instruments_6 : decode cX4_instruments 6 = .ok (.getfield 66, 3) := by decide +kernel
theorem dX4_instruments_9 : decode cX4_instruments 9 = .ok (.ireturn, 1) := by decide +kernel
theorem dX4_isInForce_0 : decode cX4_isInForce 0 = .ok (.aload_n 0, 1) := by decide +kernel
theorem dX4_isInForce_1 : decode cX4_isInForce 1 = .ok (.iload_n 1, 1) := by decide +kernel
theorem dX4_isInForce_2 : decode cX4_isInForce 2 = .ok (.invokevirtual 83, 3) := by decide +kernel
theorem dX4_isInForce_5 : decode cX4_isInForce 5 = .ok (.ifCond .eq 29, 3) := by decide +kernel
theorem dX4_isInForce_8 : decode cX4_isInForce 8 = .ok (.aload_n 0, 1) := by decide +kernel
theorem dX4_isInForce_9 : decode cX4_isInForce 9 = .ok (.getfield 80, 3) := by decide +kernel
theorem dX4_isInForce_12 : decode cX4_isInForce 12 = .ok (.aload_n 0, 1) := by decide +kernel
theorem dX4_isInForce_13 : decode cX4_isInForce 13 = .ok (.getfield 31, 3) := by decide +kernel
theorem dX4_isInForce_16 : decode cX4_isInForce 16 = .ok (.iload_n 1, 1) := by decide +kernel
theorem dX4_isInForce_17 : decode cX4_isInForce 17 = .ok (.iaload, 1) := by decide +kernel
theorem dX4_isInForce_18 : decode cX4_isInForce 18 = .ok (.if_icmp .gt 16, 3) := by decide +kernel
theorem dX4_isInForce_21 : decode cX4_isInForce 21 = .ok (.aload_n 0, 1) := by decide +kernel
theorem dX4_isInForce_22 : decode cX4_isInForce 22 = .ok (.getfield 37, 3) := by decide +kernel
theorem dX4_isInForce_25 : decode cX4_isInForce 25 = .ok (.iload_n 1, 1) := by decide +kernel
theorem dX4_isInForce_26 : decode cX4_isInForce 26 = .ok (.baload, 1) := by decide +kernel
theorem dX4_isInForce_27 : decode cX4_isInForce 27 = .ok (.ifCond .ne 7, 3) := by decide +kernel
theorem dX4_isInForce_30 : decode cX4_isInForce 30 = .ok (.iconst 1, 1) := by decide +kernel
theorem dX4_isInForce_31 : decode cX4_isInForce 31 = .ok (.goto 4, 3) := by decide +kernel
theorem dX4_isInForce_34 : decode cX4_isInForce 34 = .ok (.iconst 0, 1) := by decide +kernel
theorem dX4_isInForce_35 : decode cX4_isInForce 35 = .ok (.ireturn, 1) := by decide +kernel
theorem dX4_firstDistrusted_0 : decode cX4_firstDistrusted 0 = .ok (.iload_n 1, 1) := by decide +kernel
theorem dX4_firstDistrusted_1 : decode cX4_firstDistrusted 1 = .ok (.istore_n 2, 1) := by decide +kernel
theorem dX4_firstDistrusted_2 : decode cX4_firstDistrusted 2 = .ok (.iload_n 2, 1) := by decide +kernel
theorem dX4_firstDistrusted_3 : decode cX4_firstDistrusted 3 = .ok (.iconst (-1), 1) := by decide +kernel
theorem dX4_firstDistrusted_4 : decode cX4_firstDistrusted 4 = .ok (.if_icmp .eq 21, 3) := by decide +kernel
theorem dX4_firstDistrusted_7 : decode cX4_firstDistrusted 7 = .ok (.aload_n 0, 1) := by decide +kernel
theorem dX4_firstDistrusted_8 : decode cX4_firstDistrusted 8 = .ok (.iload_n 2, 1) := by decide +kernel
theorem dX4_firstDistrusted_9 : decode cX4_firstDistrusted 9 = .ok (.invokevirtual 86, 3) := by decide +kernel
theorem dX4_firstDistrusted_12 : decode cX4_firstDistrusted 12 = .ok (.ifCond .eq 13, 3) := by decide +kernel
theorem dX4_firstDistrusted_15 : decode cX4_firstDistrusted 15 = .ok (.aload_n 0, 1) := by decide +kernel
theorem dX4_firstDistrusted_16 : decode cX4_firstDistrusted 16 = .ok (.getfield 7, 3) := by decide +kernel
theorem dX4_firstDistrusted_19 : decode cX4_firstDistrusted 19 = .ok (.iload_n 2, 1) := by decide +kernel
theorem dX4_firstDistrusted_20 : decode cX4_firstDistrusted 20 = .ok (.iaload, 1) := by decide +kernel
theorem dX4_firstDistrusted_21 : decode cX4_firstDistrusted 21 = .ok (.istore_n 2, 1) := by decide +kernel
theorem dX4_firstDistrusted_22 : decode cX4_firstDistrusted 22 = .ok (.goto (-20), 3) := by decide +kernel
theorem dX4_firstDistrusted_25 : decode cX4_firstDistrusted 25 = .ok (.iload_n 2, 1) := by decide +kernel
theorem dX4_firstDistrusted_26 : decode cX4_firstDistrusted 26 = .ok (.ireturn, 1) := by decide +kernel
theorem dX4_reached_0 : decode cX4_reached 0 = .ok (.iconst 1, 1) := by decide +kernel
theorem dX4_reached_1 : decode cX4_reached 1 = .ok (.iload_n 1, 1) := by decide +kernel
theorem dX4_reached_2 : decode cX4_reached 2 = .ok (.ishl, 1) := by decide +kernel
theorem dX4_reached_3 : decode cX4_reached 3 = .ok (.istore_n 2, 1) := by decide +kernel
theorem dX4_reached_4 : decode cX4_reached 4 = .ok (.iconst 0, 1) := by decide +kernel
theorem dX4_reached_5 : decode cX4_reached 5 = .ok (.istore_n 3, 1) := by decide +kernel
theorem dX4_reached_6 : decode cX4_reached 6 = .ok (.iload_n 3, 1) := by decide +kernel
theorem dX4_reached_7 : decode cX4_reached 7 = .ok (.iload_n 2, 1) := by decide +kernel
theorem dX4_reached_8 : decode cX4_reached 8 = .ok (.if_icmp .eq 100, 3) := by decide +kernel
theorem dX4_reached_11 : decode cX4_reached 11 = .ok (.iload_n 2, 1) := by decide +kernel
theorem dX4_reached_12 : decode cX4_reached 12 = .ok (.istore_n 3, 1) := by decide +kernel
theorem dX4_reached_13 : decode cX4_reached 13 = .ok (.iconst 0, 1) := by decide +kernel
theorem dX4_reached_14 : decode cX4_reached 14 = .ok (.istore 4, 2) := by decide +kernel
theorem dX4_reached_16 : decode cX4_reached 16 = .ok (.iload 4, 2) := by decide +kernel
theorem dX4_reached_18 : decode cX4_reached 18 = .ok (.aload_n 0, 1) := by decide +kernel
theorem dX4_reached_19 : decode cX4_reached 19 = .ok (.getfield 66, 3) := by decide +kernel
theorem dX4_reached_22 : decode cX4_reached 22 = .ok (.if_icmp .ge 83, 3) := by decide +kernel
theorem dX4_reached_25 : decode cX4_reached 25 = .ok (.aload_n 0, 1) := by decide +kernel
theorem dX4_reached_26 : decode cX4_reached 26 = .ok (.getfield 25, 3) := by decide +kernel
theorem dX4_reached_29 : decode cX4_reached 29 = .ok (.iload 4, 2) := by decide +kernel
theorem dX4_reached_31 : decode cX4_reached 31 = .ok (.iaload, 1) := by decide +kernel
theorem dX4_reached_32 : decode cX4_reached 32 = .ok (.istore 5, 2) := by decide +kernel
theorem dX4_reached_34 : decode cX4_reached 34 = .ok (.aload_n 0, 1) := by decide +kernel
theorem dX4_reached_35 : decode cX4_reached 35 = .ok (.iload 4, 2) := by decide +kernel
theorem dX4_reached_37 : decode cX4_reached 37 = .ok (.invokevirtual 83, 3) := by decide +kernel
theorem dX4_reached_40 : decode cX4_reached 40 = .ok (.ifCond .eq 40, 3) := by decide +kernel
theorem dX4_reached_43 : decode cX4_reached 43 = .ok (.iload 5, 2) := by decide +kernel
theorem dX4_reached_45 : decode cX4_reached 45 = .ok (.iconst (-1), 1) := by decide +kernel
theorem dX4_reached_46 : decode cX4_reached 46 = .ok (.if_icmp .eq 34, 3) := by decide +kernel
theorem dX4_reached_49 : decode cX4_reached 49 = .ok (.iload_n 3, 1) := by decide +kernel
theorem dX4_reached_50 : decode cX4_reached 50 = .ok (.iload 5, 2) := by decide +kernel
theorem dX4_reached_52 : decode cX4_reached 52 = .ok (.ishr, 1) := by decide +kernel
theorem dX4_reached_53 : decode cX4_reached 53 = .ok (.iconst 1, 1) := by decide +kernel
theorem dX4_reached_54 : decode cX4_reached 54 = .ok (.iand, 1) := by decide +kernel
theorem dX4_reached_55 : decode cX4_reached 55 = .ok (.iconst 1, 1) := by decide +kernel
theorem dX4_reached_56 : decode cX4_reached 56 = .ok (.if_icmp .ne 24, 3) := by decide +kernel
theorem dX4_reached_59 : decode cX4_reached 59 = .ok (.aload_n 0, 1) := by decide +kernel
theorem dX4_reached_60 : decode cX4_reached 60 = .ok (.getfield 22, 3) := by decide +kernel
theorem dX4_reached_63 : decode cX4_reached 63 = .ok (.iload 4, 2) := by decide +kernel
theorem dX4_reached_65 : decode cX4_reached 65 = .ok (.iaload, 1) := by decide +kernel
theorem dX4_reached_66 : decode cX4_reached 66 = .ok (.aload_n 0, 1) := by decide +kernel
theorem dX4_reached_67 : decode cX4_reached 67 = .ok (.getfield 22, 3) := by decide +kernel
theorem dX4_reached_70 : decode cX4_reached 70 = .ok (.iload 5, 2) := by decide +kernel
theorem dX4_reached_72 : decode cX4_reached 72 = .ok (.iaload, 1) := by decide +kernel
theorem dX4_reached_73 : decode cX4_reached 73 = .ok (.if_icmp .le 7, 3) := by decide +kernel
theorem dX4_reached_76 : decode cX4_reached 76 = .ok (.iconst 1, 1) := by decide +kernel
theorem dX4_reached_77 : decode cX4_reached 77 = .ok (.goto 4, 3) := by decide +kernel
theorem dX4_reached_80 : decode cX4_reached 80 = .ok (.iconst 0, 1) := by decide +kernel
theorem dX4_reached_81 : decode cX4_reached 81 = .ok (.istore 6, 2) := by decide +kernel
theorem dX4_reached_83 : decode cX4_reached 83 = .ok (.iload_n 2, 1) := by decide +kernel
theorem dX4_reached_84 : decode cX4_reached 84 = .ok (.iload 6, 2) := by decide +kernel
theorem dX4_reached_86 : decode cX4_reached 86 = .ok (.ifCond .eq 10, 3) := by decide +kernel
theorem dX4_reached_89 : decode cX4_reached 89 = .ok (.iconst 1, 1) := by decide +kernel
theorem dX4_reached_90 : decode cX4_reached 90 = .ok (.iload 4, 2) := by decide +kernel
theorem dX4_reached_92 : decode cX4_reached 92 = .ok (.ishl, 1) := by decide +kernel
theorem dX4_reached_93 : decode cX4_reached 93 = .ok (.goto 4, 3) := by decide +kernel
theorem dX4_reached_96 : decode cX4_reached 96 = .ok (.iconst 0, 1) := by decide +kernel
theorem dX4_reached_97 : decode cX4_reached 97 = .ok (.ior, 1) := by decide +kernel
theorem dX4_reached_98 : decode cX4_reached 98 = .ok (.istore_n 2, 1) := by decide +kernel
theorem dX4_reached_99 : decode cX4_reached 99 = .ok (.iinc 4 1, 3) := by decide +kernel
theorem dX4_reached_102 : decode cX4_reached 102 = .ok (.goto (-86), 3) := by decide +kernel
theorem dX4_reached_105 : decode cX4_reached 105 = .ok (.goto (-99), 3) := by decide +kernel
theorem dX4_reached_108 : decode cX4_reached 108 = .ok (.iload_n 2, 1) := by decide +kernel
theorem dX4_reached_109 : decode cX4_reached 109 = .ok (.ireturn, 1) := by decide +kernel
theorem dX4_recalls_0 : decode cX4_recalls 0 = .ok (.iconst 0, 1) := by decide +kernel
theorem dX4_recalls_1 : decode cX4_recalls 1 = .ok (.istore_n 3, 1) := by decide +kernel
theorem dX4_recalls_2 : decode cX4_recalls 2 = .ok (.iconst 0, 1) := by decide +kernel
theorem dX4_recalls_3 : decode cX4_recalls 3 = .ok (.istore 4, 2) := by decide +kernel
theorem dX4_recalls_5 : decode cX4_recalls 5 = .ok (.iload 4, 2) := by decide +kernel
theorem dX4_recalls_7 : decode cX4_recalls 7 = .ok (.aload_n 0, 1) := by decide +kernel
theorem dX4_recalls_8 : decode cX4_recalls 8 = .ok (.getfield 89, 3) := by decide +kernel
theorem dX4_recalls_11 : decode cX4_recalls 11 = .ok (.if_icmp .ge 66, 3) := by decide +kernel
theorem dX4_recalls_14 : decode cX4_recalls 14 = .ok (.aload_n 0, 1) := by decide +kernel
theorem dX4_recalls_15 : decode cX4_recalls 15 = .ok (.getfield 53, 3) := by decide +kernel
theorem dX4_recalls_18 : decode cX4_recalls 18 = .ok (.iload 4, 2) := by decide +kernel
theorem dX4_recalls_20 : decode cX4_recalls 20 = .ok (.iaload, 1) := by decide +kernel
theorem dX4_recalls_21 : decode cX4_recalls 21 = .ok (.istore 5, 2) := by decide +kernel
theorem dX4_recalls_23 : decode cX4_recalls 23 = .ok (.iload_n 1, 1) := by decide +kernel
theorem dX4_recalls_24 : decode cX4_recalls 24 = .ok (.iload 5, 2) := by decide +kernel
theorem dX4_recalls_26 : decode cX4_recalls 26 = .ok (.ishr, 1) := by decide +kernel
theorem dX4_recalls_27 : decode cX4_recalls 27 = .ok (.iconst 1, 1) := by decide +kernel
theorem dX4_recalls_28 : decode cX4_recalls 28 = .ok (.iand, 1) := by decide +kernel
theorem dX4_recalls_29 : decode cX4_recalls 29 = .ok (.iconst 1, 1) := by decide +kernel
theorem dX4_recalls_30 : decode cX4_recalls 30 = .ok (.if_icmp .ne 41, 3) := by decide +kernel
theorem dX4_recalls_33 : decode cX4_recalls 33 = .ok (.aload_n 0, 1) := by decide +kernel
theorem dX4_recalls_34 : decode cX4_recalls 34 = .ok (.getfield 56, 3) := by decide +kernel
theorem dX4_recalls_37 : decode cX4_recalls 37 = .ok (.iload 4, 2) := by decide +kernel
theorem dX4_recalls_39 : decode cX4_recalls 39 = .ok (.iaload, 1) := by decide +kernel
theorem dX4_recalls_40 : decode cX4_recalls 40 = .ok (.aload_n 0, 1) := by decide +kernel
theorem dX4_recalls_41 : decode cX4_recalls 41 = .ok (.getfield 22, 3) := by decide +kernel
theorem dX4_recalls_44 : decode cX4_recalls 44 = .ok (.iload 5, 2) := by decide +kernel
theorem dX4_recalls_46 : decode cX4_recalls 46 = .ok (.iaload, 1) := by decide +kernel
theorem dX4_recalls_47 : decode cX4_recalls 47 = .ok (.if_icmp .le 24, 3) := by decide +kernel
theorem dX4_recalls_50 : decode cX4_recalls 50 = .ok (.aload_n 0, 1) := by decide +kernel
theorem dX4_recalls_51 : decode cX4_recalls 51 = .ok (.getfield 59, 3) := by decide +kernel
theorem dX4_recalls_54 : decode cX4_recalls 54 = .ok (.iload 4, 2) := by decide +kernel
theorem dX4_recalls_56 : decode cX4_recalls 56 = .ok (.baload, 1) := by decide +kernel
theorem dX4_recalls_57 : decode cX4_recalls 57 = .ok (.ifCond .ne 14, 3) := by decide +kernel
theorem dX4_recalls_60 : decode cX4_recalls 60 = .ok (.iinc 3 1, 3) := by decide +kernel
theorem dX4_recalls_63 : decode cX4_recalls 63 = .ok (.aload_n 0, 1) := by decide +kernel
theorem dX4_recalls_64 : decode cX4_recalls 64 = .ok (.getfield 59, 3) := by decide +kernel
theorem dX4_recalls_67 : decode cX4_recalls 67 = .ok (.iload 4, 2) := by decide +kernel
theorem dX4_recalls_69 : decode cX4_recalls 69 = .ok (.iload_n 2, 1) := by decide +kernel
theorem dX4_recalls_70 : decode cX4_recalls 70 = .ok (.bastore, 1) := by decide +kernel
theorem dX4_recalls_71 : decode cX4_recalls 71 = .ok (.iinc 4 1, 3) := by decide +kernel
theorem dX4_recalls_74 : decode cX4_recalls 74 = .ok (.goto (-69), 3) := by decide +kernel
theorem dX4_recalls_77 : decode cX4_recalls 77 = .ok (.iload_n 3, 1) := by decide +kernel
theorem dX4_recalls_78 : decode cX4_recalls 78 = .ok (.ireturn, 1) := by decide +kernel
theorem dX4_fails_0 : decode cX4_fails 0 = .ok (.aload_n 0, 1) := by decide +kernel
theorem dX4_fails_1 : decode cX4_fails 1 = .ok (.iload_n 1, 1) := by decide +kernel
theorem dX4_fails_2 : decode cX4_fails 2 = .ok (.invokevirtual 92, 3) := by decide +kernel
theorem dX4_fails_5 : decode cX4_fails 5 = .ok (.istore_n 2, 1) := by decide +kernel
theorem dX4_fails_6 : decode cX4_fails 6 = .ok (.aload_n 0, 1) := by decide +kernel
theorem dX4_fails_7 : decode cX4_fails 7 = .ok (.getfield 41, 3) := by decide +kernel
theorem dX4_fails_10 : decode cX4_fails 10 = .ok (.iload_n 1, 1) := by decide +kernel
theorem dX4_fails_11 : decode cX4_fails 11 = .ok (.dup2, 1) := by decide +kernel
theorem dX4_fails_12 : decode cX4_fails 12 = .ok (.iaload, 1) := by decide +kernel
theorem dX4_fails_13 : decode cX4_fails 13 = .ok (.iconst 1, 1) := by decide +kernel
theorem dX4_fails_14 : decode cX4_fails 14 = .ok (.iadd, 1) := by decide +kernel
theorem dX4_fails_15 : decode cX4_fails 15 = .ok (.iastore, 1) := by decide +kernel
theorem dX4_fails_16 : decode cX4_fails 16 = .ok (.iconst 0, 1) := by decide +kernel
theorem dX4_fails_17 : decode cX4_fails 17 = .ok (.istore_n 3, 1) := by decide +kernel
theorem dX4_fails_18 : decode cX4_fails 18 = .ok (.iload_n 3, 1) := by decide +kernel
theorem dX4_fails_19 : decode cX4_fails 19 = .ok (.aload_n 0, 1) := by decide +kernel
theorem dX4_fails_20 : decode cX4_fails 20 = .ok (.getfield 66, 3) := by decide +kernel
theorem dX4_fails_23 : decode cX4_fails 23 = .ok (.if_icmp .ge 43, 3) := by decide +kernel
theorem dX4_fails_26 : decode cX4_fails 26 = .ok (.aload_n 0, 1) := by decide +kernel
theorem dX4_fails_27 : decode cX4_fails 27 = .ok (.getfield 37, 3) := by decide +kernel
theorem dX4_fails_30 : decode cX4_fails 30 = .ok (.iload_n 3, 1) := by decide +kernel
theorem dX4_fails_31 : decode cX4_fails 31 = .ok (.aload_n 0, 1) := by decide +kernel
theorem dX4_fails_32 : decode cX4_fails 32 = .ok (.getfield 37, 3) := by decide +kernel
theorem dX4_fails_35 : decode cX4_fails 35 = .ok (.iload_n 3, 1) := by decide +kernel
theorem dX4_fails_36 : decode cX4_fails 36 = .ok (.baload, 1) := by decide +kernel
theorem dX4_fails_37 : decode cX4_fails 37 = .ok (.ifCond .ne 17, 3) := by decide +kernel
theorem dX4_fails_40 : decode cX4_fails 40 = .ok (.iload_n 2, 1) := by decide +kernel
theorem dX4_fails_41 : decode cX4_fails 41 = .ok (.iload_n 3, 1) := by decide +kernel
theorem dX4_fails_42 : decode cX4_fails 42 = .ok (.ishr, 1) := by decide +kernel
theorem dX4_fails_43 : decode cX4_fails 43 = .ok (.iconst 1, 1) := by decide +kernel
theorem dX4_fails_44 : decode cX4_fails 44 = .ok (.iand, 1) := by decide +kernel
theorem dX4_fails_45 : decode cX4_fails 45 = .ok (.iconst 1, 1) := by decide +kernel
theorem dX4_fails_46 : decode cX4_fails 46 = .ok (.if_icmp .ne 12, 3) := by decide +kernel
theorem dX4_fails_49 : decode cX4_fails 49 = .ok (.iload_n 3, 1) := by decide +kernel
theorem dX4_fails_50 : decode cX4_fails 50 = .ok (.iload_n 1, 1) := by decide +kernel
theorem dX4_fails_51 : decode cX4_fails 51 = .ok (.if_icmp .eq 7, 3) := by decide +kernel
theorem dX4_fails_54 : decode cX4_fails 54 = .ok (.iconst 1, 1) := by decide +kernel
theorem dX4_fails_55 : decode cX4_fails 55 = .ok (.goto 4, 3) := by decide +kernel
theorem dX4_fails_58 : decode cX4_fails 58 = .ok (.iconst 0, 1) := by decide +kernel
theorem dX4_fails_59 : decode cX4_fails 59 = .ok (.bastore, 1) := by decide +kernel
theorem dX4_fails_60 : decode cX4_fails 60 = .ok (.iinc 3 1, 3) := by decide +kernel
theorem dX4_fails_63 : decode cX4_fails 63 = .ok (.goto (-45), 3) := by decide +kernel
theorem dX4_fails_66 : decode cX4_fails 66 = .ok (.aload_n 0, 1) := by decide +kernel
theorem dX4_fails_67 : decode cX4_fails 67 = .ok (.iload_n 2, 1) := by decide +kernel
theorem dX4_fails_68 : decode cX4_fails 68 = .ok (.iconst 1, 1) := by decide +kernel
theorem dX4_fails_69 : decode cX4_fails 69 = .ok (.invokevirtual 96, 3) := by decide +kernel
theorem dX4_fails_72 : decode cX4_fails 72 = .ok (.ireturn, 1) := by decide +kernel
theorem dX4_laysPoint_0 : decode cX4_laysPoint 0 = .ok (.bipush 8, 2) := by decide +kernel
theorem dX4_laysPoint_2 : decode cX4_laysPoint 2 = .ok (.iload_n 1, 1) := by decide +kernel
theorem dX4_laysPoint_3 : decode cX4_laysPoint 3 = .ok (.imul, 1) := by decide +kernel
theorem dX4_laysPoint_4 : decode cX4_laysPoint 4 = .ok (.istore 4, 2) := by decide +kernel
theorem dX4_laysPoint_6 : decode cX4_laysPoint 6 = .ok (.aload_n 0, 1) := by decide +kernel
theorem dX4_laysPoint_7 : decode cX4_laysPoint 7 = .ok (.getfield 44, 3) := by decide +kernel
theorem dX4_laysPoint_10 : decode cX4_laysPoint 10 = .ok (.iload_n 1, 1) := by decide +kernel
theorem dX4_laysPoint_11 : decode cX4_laysPoint 11 = .ok (.iaload, 1) := by decide +kernel
theorem dX4_laysPoint_12 : decode cX4_laysPoint 12 = .ok (.bipush 8, 2) := by decide +kernel
theorem dX4_laysPoint_14 : decode cX4_laysPoint 14 = .ok (.if_icmp .ne 67, 3) := by decide +kernel
theorem dX4_laysPoint_17 : decode cX4_laysPoint 17 = .ok (.iload 4, 2) := by decide +kernel
theorem dX4_laysPoint_19 : decode cX4_laysPoint 19 = .ok (.istore 5, 2) := by decide +kernel
theorem dX4_laysPoint_21 : decode cX4_laysPoint 21 = .ok (.iload 5, 2) := by decide +kernel
theorem dX4_laysPoint_23 : decode cX4_laysPoint 23 = .ok (.iload 4, 2) := by decide +kernel
theorem dX4_laysPoint_25 : decode cX4_laysPoint 25 = .ok (.bipush 8, 2) := by decide +kernel
theorem dX4_laysPoint_27 : decode cX4_laysPoint 27 = .ok (.iadd, 1) := by decide +kernel
theorem dX4_laysPoint_28 : decode cX4_laysPoint 28 = .ok (.iconst 1, 1) := by decide +kernel
theorem dX4_laysPoint_29 : decode cX4_laysPoint 29 = .ok (.isub, 1) := by decide +kernel
theorem dX4_laysPoint_30 : decode cX4_laysPoint 30 = .ok (.if_icmp .ge 41, 3) := by decide +kernel
theorem dX4_laysPoint_33 : decode cX4_laysPoint 33 = .ok (.aload_n 0, 1) := by decide +kernel
theorem dX4_laysPoint_34 : decode cX4_laysPoint 34 = .ok (.getfield 47, 3) := by decide +kernel
theorem dX4_laysPoint_37 : decode cX4_laysPoint 37 = .ok (.iload 5, 2) := by decide +kernel
theorem dX4_laysPoint_39 : decode cX4_laysPoint 39 = .ok (.aload_n 0, 1) := by decide +kernel
theorem dX4_laysPoint_40 : decode cX4_laysPoint 40 = .ok (.getfield 47, 3) := by decide +kernel
theorem dX4_laysPoint_43 : decode cX4_laysPoint 43 = .ok (.iload 5, 2) := by decide +kernel
theorem dX4_laysPoint_45 : decode cX4_laysPoint 45 = .ok (.iconst 1, 1) := by decide +kernel
theorem dX4_laysPoint_46 : decode cX4_laysPoint 46 = .ok (.iadd, 1) := by decide +kernel
theorem dX4_laysPoint_47 : decode cX4_laysPoint 47 = .ok (.iaload, 1) := by decide +kernel
theorem dX4_laysPoint_48 : decode cX4_laysPoint 48 = .ok (.iastore, 1) := by decide +kernel
theorem dX4_laysPoint_49 : decode cX4_laysPoint 49 = .ok (.aload_n 0, 1) := by decide +kernel
theorem dX4_laysPoint_50 : decode cX4_laysPoint 50 = .ok (.getfield 50, 3) := by decide +kernel
theorem dX4_laysPoint_53 : decode cX4_laysPoint 53 = .ok (.iload 5, 2) := by decide +kernel
theorem dX4_laysPoint_55 : decode cX4_laysPoint 55 = .ok (.aload_n 0, 1) := by decide +kernel
theorem dX4_laysPoint_56 : decode cX4_laysPoint 56 = .ok (.getfield 50, 3) := by decide +kernel
theorem dX4_laysPoint_59 : decode cX4_laysPoint 59 = .ok (.iload 5, 2) := by decide +kernel
theorem dX4_laysPoint_61 : decode cX4_laysPoint 61 = .ok (.iconst 1, 1) := by decide +kernel
theorem dX4_laysPoint_62 : decode cX4_laysPoint 62 = .ok (.iadd, 1) := by decide +kernel
theorem dX4_laysPoint_63 : decode cX4_laysPoint 63 = .ok (.iaload, 1) := by decide +kernel
theorem dX4_laysPoint_64 : decode cX4_laysPoint 64 = .ok (.iastore, 1) := by decide +kernel
theorem dX4_laysPoint_65 : decode cX4_laysPoint 65 = .ok (.iinc 5 1, 3) := by decide +kernel
theorem dX4_laysPoint_68 : decode cX4_laysPoint 68 = .ok (.goto (-47), 3) := by decide +kernel
theorem dX4_laysPoint_71 : decode cX4_laysPoint 71 = .ok (.aload_n 0, 1) := by decide +kernel
theorem dX4_laysPoint_72 : decode cX4_laysPoint 72 = .ok (.getfield 44, 3) := by decide +kernel
theorem dX4_laysPoint_75 : decode cX4_laysPoint 75 = .ok (.iload_n 1, 1) := by decide +kernel
theorem dX4_laysPoint_76 : decode cX4_laysPoint 76 = .ok (.dup2, 1) := by decide +kernel
theorem dX4_laysPoint_77 : decode cX4_laysPoint 77 = .ok (.iaload, 1) := by decide +kernel
theorem dX4_laysPoint_78 : decode cX4_laysPoint 78 = .ok (.iconst 1, 1) := by decide +kernel
theorem dX4_laysPoint_79 : decode cX4_laysPoint 79 = .ok (.isub, 1) := by decide +kernel
theorem dX4_laysPoint_80 : decode cX4_laysPoint 80 = .ok (.iastore, 1) := by decide +kernel
theorem dX4_laysPoint_81 : decode cX4_laysPoint 81 = .ok (.aload_n 0, 1) := by decide +kernel
theorem dX4_laysPoint_82 : decode cX4_laysPoint 82 = .ok (.getfield 47, 3) := by decide +kernel
theorem dX4_laysPoint_85 : decode cX4_laysPoint 85 = .ok (.iload 4, 2) := by decide +kernel
theorem dX4_laysPoint_87 : decode cX4_laysPoint 87 = .ok (.aload_n 0, 1) := by decide +kernel
theorem dX4_laysPoint_88 : decode cX4_laysPoint 88 = .ok (.getfield 44, 3) := by decide +kernel
theorem dX4_laysPoint_91 : decode cX4_laysPoint 91 = .ok (.iload_n 1, 1) := by decide +kernel
theorem dX4_laysPoint_92 : decode cX4_laysPoint 92 = .ok (.iaload, 1) := by decide +kernel
theorem dX4_laysPoint_93 : decode cX4_laysPoint 93 = .ok (.iadd, 1) := by decide +kernel
theorem dX4_laysPoint_94 : decode cX4_laysPoint 94 = .ok (.iload_n 2, 1) := by decide +kernel
theorem dX4_laysPoint_95 : decode cX4_laysPoint 95 = .ok (.iastore, 1) := by decide +kernel
theorem dX4_laysPoint_96 : decode cX4_laysPoint 96 = .ok (.aload_n 0, 1) := by decide +kernel
theorem dX4_laysPoint_97 : decode cX4_laysPoint 97 = .ok (.getfield 50, 3) := by decide +kernel
theorem dX4_laysPoint_100 : decode cX4_laysPoint 100 = .ok (.iload 4, 2) := by decide +kernel
theorem dX4_laysPoint_102 : decode cX4_laysPoint 102 = .ok (.aload_n 0, 1) := by decide +kernel
theorem dX4_laysPoint_103 : decode cX4_laysPoint 103 = .ok (.getfield 44, 3) := by decide +kernel
theorem dX4_laysPoint_106 : decode cX4_laysPoint 106 = .ok (.iload_n 1, 1) := by decide +kernel
theorem dX4_laysPoint_107 : decode cX4_laysPoint 107 = .ok (.iaload, 1) := by decide +kernel
theorem dX4_laysPoint_108 : decode cX4_laysPoint 108 = .ok (.iadd, 1) := by decide +kernel
theorem dX4_laysPoint_109 : decode cX4_laysPoint 109 = .ok (.iload_n 3, 1) := by decide +kernel
theorem dX4_laysPoint_110 : decode cX4_laysPoint 110 = .ok (.iastore, 1) := by decide +kernel
theorem dX4_laysPoint_111 : decode cX4_laysPoint 111 = .ok (.aload_n 0, 1) := by decide +kernel
theorem dX4_laysPoint_112 : decode cX4_laysPoint 112 = .ok (.getfield 44, 3) := by decide +kernel
theorem dX4_laysPoint_115 : decode cX4_laysPoint 115 = .ok (.iload_n 1, 1) := by decide +kernel
theorem dX4_laysPoint_116 : decode cX4_laysPoint 116 = .ok (.dup2, 1) := by decide +kernel
theorem dX4_laysPoint_117 : decode cX4_laysPoint 117 = .ok (.iaload, 1) := by decide +kernel
theorem dX4_laysPoint_118 : decode cX4_laysPoint 118 = .ok (.iconst 1, 1) := by decide +kernel
theorem dX4_laysPoint_119 : decode cX4_laysPoint 119 = .ok (.iadd, 1) := by decide +kernel
theorem dX4_laysPoint_120 : decode cX4_laysPoint 120 = .ok (.iastore, 1) := by decide +kernel
theorem dX4_laysPoint_121 : decode cX4_laysPoint 121 = .ok (.return_, 1) := by decide +kernel
theorem dX4_isError_0 : decode cX4_isError 0 = .ok (.iload_n 0, 1) := by decide +kernel
theorem dX4_isError_1 : decode cX4_isError 1 = .ok (.ldc 100, 2) := by decide +kernel
theorem dX4_isError_3 : decode cX4_isError 3 = .ok (.if_icmp .lt 13, 3) := by decide +kernel
theorem dX4_isError_6 : decode cX4_isError 6 = .ok (.iload_n 0, 1) := by decide +kernel
theorem dX4_isError_7 : decode cX4_isError 7 = .ok (.ldc 101, 2) := by decide +kernel
theorem dX4_isError_9 : decode cX4_isError 9 = .ok (.if_icmp .gt 7, 3) := by decide +kernel
theorem dX4_isError_12 : decode cX4_isError 12 = .ok (.iconst 1, 1) := by decide +kernel
theorem dX4_isError_13 : decode cX4_isError 13 = .ok (.goto 4, 3) := by decide +kernel
theorem dX4_isError_16 : decode cX4_isError 16 = .ok (.iconst 0, 1) := by decide +kernel
theorem dX4_isError_17 : decode cX4_isError 17 = .ok (.ireturn, 1) := by decide +kernel
theorem dX4_calibrate_0 : decode cX4_calibrate 0 = .ok (.aload_n 0, 1) := by decide +kernel
theorem dX4_calibrate_1 : decode cX4_calibrate 1 = .ok (.iload_n 1, 1) := by decide +kernel
theorem dX4_calibrate_2 : decode cX4_calibrate 2 = .ok (.invokevirtual 69, 3) := by decide +kernel
theorem dX4_calibrate_5 : decode cX4_calibrate 5 = .ok (.istore 4, 2) := by decide +kernel
theorem dX4_calibrate_7 : decode cX4_calibrate 7 = .ok (.iload_n 2, 1) := by decide +kernel
theorem dX4_calibrate_8 : decode cX4_calibrate 8 = .ok (.invokestatic 102, 3) := by decide +kernel
theorem dX4_calibrate_11 : decode cX4_calibrate 11 = .ok (.ifCond .eq 14, 3) := by decide +kernel
theorem dX4_calibrate_14 : decode cX4_calibrate 14 = .ok (.iload_n 3, 1) := by decide +kernel
theorem dX4_calibrate_15 : decode cX4_calibrate 15 = .ok (.invokestatic 102, 3) := by decide +kernel
theorem dX4_calibrate_18 : decode cX4_calibrate 18 = .ok (.ifCond .eq 7, 3) := by decide +kernel
theorem dX4_calibrate_21 : decode cX4_calibrate 21 = .ok (.iconst 1, 1) := by decide +kernel
theorem dX4_calibrate_22 : decode cX4_calibrate 22 = .ok (.goto 4, 3) := by decide +kernel
theorem dX4_calibrate_25 : decode cX4_calibrate 25 = .ok (.iconst 0, 1) := by decide +kernel
theorem dX4_calibrate_26 : decode cX4_calibrate 26 = .ok (.istore 5, 2) := by decide +kernel
theorem dX4_calibrate_28 : decode cX4_calibrate 28 = .ok (.aload_n 0, 1) := by decide +kernel
theorem dX4_calibrate_29 : decode cX4_calibrate 29 = .ok (.iload 4, 2) := by decide +kernel
theorem dX4_calibrate_31 : decode cX4_calibrate 31 = .ok (.ifCond .ne 7, 3) := by decide +kernel
theorem dX4_calibrate_34 : decode cX4_calibrate 34 = .ok (.iconst 1, 1) := by decide +kernel
theorem dX4_calibrate_35 : decode cX4_calibrate 35 = .ok (.goto 31, 3) := by decide +kernel
theorem dX4_calibrate_38 : decode cX4_calibrate 38 = .ok (.iload 5, 2) := by decide +kernel
theorem dX4_calibrate_40 : decode cX4_calibrate 40 = .ok (.ifCond .ne 7, 3) := by decide +kernel
theorem dX4_calibrate_43 : decode cX4_calibrate 43 = .ok (.iconst 2, 1) := by decide +kernel
theorem dX4_calibrate_44 : decode cX4_calibrate 44 = .ok (.goto 22, 3) := by decide +kernel
theorem dX4_calibrate_47 : decode cX4_calibrate 47 = .ok (.aload_n 0, 1) := by decide +kernel
theorem dX4_calibrate_48 : decode cX4_calibrate 48 = .ok (.aload_n 0, 1) := by decide +kernel
theorem dX4_calibrate_49 : decode cX4_calibrate 49 = .ok (.getfield 7, 3) := by decide +kernel
theorem dX4_calibrate_52 : decode cX4_calibrate 52 = .ok (.iload_n 1, 1) := by decide +kernel
theorem dX4_calibrate_53 : decode cX4_calibrate 53 = .ok (.iaload, 1) := by decide +kernel
theorem dX4_calibrate_54 : decode cX4_calibrate 54 = .ok (.invokevirtual 105, 3) := by decide +kernel
theorem dX4_calibrate_57 : decode cX4_calibrate 57 = .ok (.iconst (-1), 1) := by decide +kernel
theorem dX4_calibrate_58 : decode cX4_calibrate 58 = .ok (.if_icmp .eq 7, 3) := by decide +kernel
theorem dX4_calibrate_61 : decode cX4_calibrate 61 = .ok (.iconst 3, 1) := by decide +kernel
theorem dX4_calibrate_62 : decode cX4_calibrate 62 = .ok (.goto 4, 3) := by decide +kernel
theorem dX4_calibrate_65 : decode cX4_calibrate 65 = .ok (.iconst 0, 1) := by decide +kernel
theorem dX4_calibrate_66 : decode cX4_calibrate 66 = .ok (.invokevirtual 73, 3) := by decide +kernel
theorem dX4_calibrate_69 : decode cX4_calibrate 69 = .ok (.ifCond .ne 5, 3) := by decide +kernel
theorem dX4_calibrate_72 : decode cX4_calibrate 72 = .ok (.iconst 0, 1) := by decide +kernel
theorem dX4_calibrate_73 : decode cX4_calibrate 73 = .ok (.ireturn, 1) := by decide +kernel
theorem dX4_calibrate_74 : decode cX4_calibrate 74 = .ok (.iconst 0, 1) := by decide +kernel
theorem dX4_calibrate_75 : decode cX4_calibrate 75 = .ok (.istore 6, 2) := by decide +kernel
theorem dX4_calibrate_77 : decode cX4_calibrate 77 = .ok (.aload_n 0, 1) := by decide +kernel
theorem dX4_calibrate_78 : decode cX4_calibrate 78 = .ok (.iload_n 1, 1) := by decide +kernel
theorem dX4_calibrate_79 : decode cX4_calibrate 79 = .ok (.invokevirtual 83, 3) := by decide +kernel
theorem dX4_calibrate_82 : decode cX4_calibrate 82 = .ok (.ifCond .eq 149, 3) := by decide +kernel
theorem dX4_calibrate_85 : decode cX4_calibrate 85 = .ok (.aload_n 0, 1) := by decide +kernel
theorem dX4_calibrate_86 : decode cX4_calibrate 86 = .ok (.getfield 19, 3) := by decide +kernel
theorem dX4_calibrate_89 : decode cX4_calibrate 89 = .ok (.iload_n 1, 1) := by decide +kernel
theorem dX4_calibrate_90 : decode cX4_calibrate 90 = .ok (.iaload, 1) := by decide +kernel
theorem dX4_calibrate_91 : decode cX4_calibrate 91 = .ok (.istore 7, 2) := by decide +kernel
theorem dX4_calibrate_93 : decode cX4_calibrate 93 = .ok (.iload_n 2, 1) := by decide +kernel
theorem dX4_calibrate_94 : decode cX4_calibrate 94 = .ok (.invokestatic 108, 3) := by decide +kernel
theorem dX4_calibrate_97 : decode cX4_calibrate 97 = .ok (.aload_n 0, 1) := by decide +kernel
theorem dX4_calibrate_98 : decode cX4_calibrate 98 = .ok (.getfield 13, 3) := by decide +kernel
theorem dX4_calibrate_101 : decode cX4_calibrate 101 = .ok (.iload_n 1, 1) := by decide +kernel
theorem dX4_calibrate_102 : decode cX4_calibrate 102 = .ok (.iaload, 1) := by decide +kernel
theorem dX4_calibrate_103 : decode cX4_calibrate 103 = .ok (.if_icmp .le 7, 3) := by decide +kernel
theorem dX4_calibrate_106 : decode cX4_calibrate 106 = .ok (.iconst 1, 1) := by decide +kernel
theorem dX4_calibrate_107 : decode cX4_calibrate 107 = .ok (.goto 4, 3) := by decide +kernel
theorem dX4_calibrate_110 : decode cX4_calibrate 110 = .ok (.iconst 0, 1) := by decide +kernel
theorem dX4_calibrate_111 : decode cX4_calibrate 111 = .ok (.istore 8, 2) := by decide +kernel
theorem dX4_calibrate_113 : decode cX4_calibrate 113 = .ok (.iload 8, 2) := by decide +kernel
theorem dX4_calibrate_115 : decode cX4_calibrate 115 = .ok (.ifCond .eq 28, 3) := by decide +kernel
theorem dX4_calibrate_118 : decode cX4_calibrate 118 = .ok (.aload_n 0, 1) := by decide +kernel
theorem dX4_calibrate_119 : decode cX4_calibrate 119 = .ok (.iload_n 1, 1) := by decide +kernel
theorem dX4_calibrate_120 : decode cX4_calibrate 120 = .ok (.invokevirtual 111, 3) := by decide +kernel
theorem dX4_calibrate_123 : decode cX4_calibrate 123 = .ok (.istore 6, 2) := by decide +kernel
theorem dX4_calibrate_125 : decode cX4_calibrate 125 = .ok (.iload 7, 2) := by decide +kernel
theorem dX4_calibrate_127 : decode cX4_calibrate 127 = .ok (.iconst 2, 1) := by decide +kernel
theorem dX4_calibrate_128 : decode cX4_calibrate 128 = .ok (.idiv, 1) := by decide +kernel
theorem dX4_calibrate_129 : decode cX4_calibrate 129 = .ok (.iconst 1, 1) := by decide +kernel
theorem dX4_calibrate_130 : decode cX4_calibrate 130 = .ok (.if_icmp .ge 7, 3) := by decide +kernel
theorem dX4_calibrate_133 : decode cX4_calibrate 133 = .ok (.iconst 1, 1) := by decide +kernel
theorem dX4_calibrate_134 : decode cX4_calibrate 134 = .ok (.goto 7, 3) := by decide +kernel
theorem dX4_calibrate_137 : decode cX4_calibrate 137 = .ok (.iload 7, 2) := by decide +kernel
theorem dX4_calibrate_139 : decode cX4_calibrate 139 = .ok (.iconst 2, 1) := by decide +kernel
theorem dX4_calibrate_140 : decode cX4_calibrate 140 = .ok (.idiv, 1) := by decide +kernel
theorem dX4_calibrate_141 : decode cX4_calibrate 141 = .ok (.istore 7, 2) := by decide +kernel
theorem dX4_calibrate_143 : decode cX4_calibrate 143 = .ok (.iconst 2, 1) := by decide +kernel
theorem dX4_calibrate_144 : decode cX4_calibrate 144 = .ok (.iload_n 2, 1) := by decide +kernel
theorem dX4_calibrate_145 : decode cX4_calibrate 145 = .ok (.invokestatic 108, 3) := by decide +kernel
theorem dX4_calibrate_148 : decode cX4_calibrate 148 = .ok (.imul, 1) := by decide +kernel
theorem dX4_calibrate_149 : decode cX4_calibrate 149 = .ok (.aload_n 0, 1) := by decide +kernel
theorem dX4_calibrate_150 : decode cX4_calibrate 150 = .ok (.getfield 13, 3) := by decide +kernel
theorem dX4_calibrate_153 : decode cX4_calibrate 153 = .ok (.iload_n 1, 1) := by decide +kernel
theorem dX4_calibrate_154 : decode cX4_calibrate 154 = .ok (.iaload, 1) := by decide +kernel
theorem dX4_calibrate_155 : decode cX4_calibrate 155 = .ok (.if_icmp .gt 31, 3) := by decide +kernel
theorem dX4_calibrate_158 : decode cX4_calibrate 158 = .ok (.iload 7, 2) := by decide +kernel
theorem dX4_calibrate_160 : decode cX4_calibrate 160 = .ok (.iload 7, 2) := by decide +kernel
theorem dX4_calibrate_162 : decode cX4_calibrate 162 = .ok (.iconst 4, 1) := by decide +kernel
theorem dX4_calibrate_163 : decode cX4_calibrate 163 = .ok (.idiv, 1) := by decide +kernel
theorem dX4_calibrate_164 : decode cX4_calibrate 164 = .ok (.iadd, 1) := by decide +kernel
theorem dX4_calibrate_165 : decode cX4_calibrate 165 = .ok (.sipush 999, 3) := by decide +kernel
theorem dX4_calibrate_168 : decode cX4_calibrate 168 = .ok (.if_icmp .le 9, 3) := by decide +kernel
theorem dX4_calibrate_171 : decode cX4_calibrate 171 = .ok (.sipush 999, 3) := by decide +kernel
theorem dX4_calibrate_174 : decode cX4_calibrate 174 = .ok (.goto 10, 3) := by decide +kernel
theorem dX4_calibrate_177 : decode cX4_calibrate 177 = .ok (.iload 7, 2) := by decide +kernel
theorem dX4_calibrate_179 : decode cX4_calibrate 179 = .ok (.iload 7, 2) := by decide +kernel
theorem dX4_calibrate_181 : decode cX4_calibrate 181 = .ok (.iconst 4, 1) := by decide +kernel
theorem dX4_calibrate_182 : decode cX4_calibrate 182 = .ok (.idiv, 1) := by decide +kernel
theorem dX4_calibrate_183 : decode cX4_calibrate 183 = .ok (.iadd, 1) := by decide +kernel
theorem dX4_calibrate_184 : decode cX4_calibrate 184 = .ok (.istore 7, 2) := by decide +kernel
theorem dX4_calibrate_186 : decode cX4_calibrate 186 = .ok (.aload_n 0, 1) := by decide +kernel
theorem dX4_calibrate_187 : decode cX4_calibrate 187 = .ok (.getfield 19, 3) := by decide +kernel
theorem dX4_calibrate_190 : decode cX4_calibrate 190 = .ok (.iload_n 1, 1) := by decide +kernel
theorem dX4_calibrate_191 : decode cX4_calibrate 191 = .ok (.iload 7, 2) := by decide +kernel
theorem dX4_calibrate_193 : decode cX4_calibrate 193 = .ok (.iastore, 1) := by decide +kernel
theorem dX4_calibrate_194 : decode cX4_calibrate 194 = .ok (.aload_n 0, 1) := by decide +kernel
theorem dX4_calibrate_195 : decode cX4_calibrate 195 = .ok (.getfield 80, 3) := by decide +kernel
theorem dX4_calibrate_198 : decode cX4_calibrate 198 = .ok (.aload_n 0, 1) := by decide +kernel
theorem dX4_calibrate_199 : decode cX4_calibrate 199 = .ok (.getfield 28, 3) := by decide +kernel
theorem dX4_calibrate_202 : decode cX4_calibrate 202 = .ok (.iload_n 1, 1) := by decide +kernel
theorem dX4_calibrate_203 : decode cX4_calibrate 203 = .ok (.iaload, 1) := by decide +kernel
theorem dX4_calibrate_204 : decode cX4_calibrate 204 = .ok (.if_icmp .le 27, 3) := by decide +kernel
theorem dX4_calibrate_207 : decode cX4_calibrate 207 = .ok (.aload_n 0, 1) := by decide +kernel
theorem dX4_calibrate_208 : decode cX4_calibrate 208 = .ok (.iload_n 1, 1) := by decide +kernel
theorem dX4_calibrate_209 : decode cX4_calibrate 209 = .ok (.aload_n 0, 1) := by decide +kernel
theorem dX4_calibrate_210 : decode cX4_calibrate 210 = .ok (.getfield 80, 3) := by decide +kernel
theorem dX4_calibrate_213 : decode cX4_calibrate 213 = .ok (.aload_n 0, 1) := by decide +kernel
theorem dX4_calibrate_214 : decode cX4_calibrate 214 = .ok (.getfield 28, 3) := by decide +kernel
theorem dX4_calibrate_217 : decode cX4_calibrate 217 = .ok (.iload_n 1, 1) := by decide +kernel
theorem dX4_calibrate_218 : decode cX4_calibrate 218 = .ok (.iaload, 1) := by decide +kernel
theorem dX4_calibrate_219 : decode cX4_calibrate 219 = .ok (.isub, 1) := by decide +kernel
theorem dX4_calibrate_220 : decode cX4_calibrate 220 = .ok (.iload_n 2, 1) := by decide +kernel
theorem dX4_calibrate_221 : decode cX4_calibrate 221 = .ok (.aload_n 0, 1) := by decide +kernel
theorem dX4_calibrate_222 : decode cX4_calibrate 222 = .ok (.getfield 34, 3) := by decide +kernel
theorem dX4_calibrate_225 : decode cX4_calibrate 225 = .ok (.iload_n 1, 1) := by decide +kernel
theorem dX4_calibrate_226 : decode cX4_calibrate 226 = .ok (.iaload, 1) := by decide +kernel
theorem dX4_calibrate_227 : decode cX4_calibrate 227 = .ok (.isub, 1) := by decide +kernel
theorem dX4_calibrate_228 : decode cX4_calibrate 228 = .ok (.invokevirtual 114, 3) := by decide +kernel
theorem dX4_calibrate_231 : decode cX4_calibrate 231 = .ok (.aload_n 0, 1) := by decide +kernel
theorem dX4_calibrate_232 : decode cX4_calibrate 232 = .ok (.dup, 1) := by decide +kernel
theorem dX4_calibrate_233 : decode cX4_calibrate 233 = .ok (.getfield 118, 3) := by decide +kernel
theorem dX4_calibrate_236 : decode cX4_calibrate 236 = .ok (.iconst 1, 1) := by decide +kernel
theorem dX4_calibrate_237 : decode cX4_calibrate 237 = .ok (.iadd, 1) := by decide +kernel
theorem dX4_calibrate_238 : decode cX4_calibrate 238 = .ok (.putfield 118, 3) := by decide +kernel
theorem dX4_calibrate_241 : decode cX4_calibrate 241 = .ok (.aload_n 0, 1) := by decide +kernel
theorem dX4_calibrate_242 : decode cX4_calibrate 242 = .ok (.getfield 22, 3) := by decide +kernel
theorem dX4_calibrate_245 : decode cX4_calibrate 245 = .ok (.iload_n 1, 1) := by decide +kernel
theorem dX4_calibrate_246 : decode cX4_calibrate 246 = .ok (.aload_n 0, 1) := by decide +kernel
theorem dX4_calibrate_247 : decode cX4_calibrate 247 = .ok (.getfield 118, 3) := by decide +kernel
theorem dX4_calibrate_250 : decode cX4_calibrate 250 = .ok (.iastore, 1) := by decide +kernel
theorem dX4_calibrate_251 : decode cX4_calibrate 251 = .ok (.aload_n 0, 1) := by decide +kernel
theorem dX4_calibrate_252 : decode cX4_calibrate 252 = .ok (.getfield 25, 3) := by decide +kernel
theorem dX4_calibrate_255 : decode cX4_calibrate 255 = .ok (.iload_n 1, 1) := by decide +kernel
theorem dX4_calibrate_256 : decode cX4_calibrate 256 = .ok (.aload_n 0, 1) := by decide +kernel
theorem dX4_calibrate_257 : decode cX4_calibrate 257 = .ok (.getfield 7, 3) := by decide +kernel
theorem dX4_calibrate_260 : decode cX4_calibrate 260 = .ok (.iload_n 1, 1) := by decide +kernel
theorem dX4_calibrate_261 : decode cX4_calibrate 261 = .ok (.iaload, 1) := by decide +kernel
theorem dX4_calibrate_262 : decode cX4_calibrate 262 = .ok (.iastore, 1) := by decide +kernel
theorem dX4_calibrate_263 : decode cX4_calibrate 263 = .ok (.aload_n 0, 1) := by decide +kernel
theorem dX4_calibrate_264 : decode cX4_calibrate 264 = .ok (.getfield 28, 3) := by decide +kernel
theorem dX4_calibrate_267 : decode cX4_calibrate 267 = .ok (.iload_n 1, 1) := by decide +kernel
theorem dX4_calibrate_268 : decode cX4_calibrate 268 = .ok (.aload_n 0, 1) := by decide +kernel
theorem dX4_calibrate_269 : decode cX4_calibrate 269 = .ok (.getfield 80, 3) := by decide +kernel
theorem dX4_calibrate_272 : decode cX4_calibrate 272 = .ok (.iastore, 1) := by decide +kernel
theorem dX4_calibrate_273 : decode cX4_calibrate 273 = .ok (.aload_n 0, 1) := by decide +kernel
theorem dX4_calibrate_274 : decode cX4_calibrate 274 = .ok (.getfield 31, 3) := by decide +kernel
theorem dX4_calibrate_277 : decode cX4_calibrate 277 = .ok (.iload_n 1, 1) := by decide +kernel
theorem dX4_calibrate_278 : decode cX4_calibrate 278 = .ok (.aload_n 0, 1) := by decide +kernel
theorem dX4_calibrate_279 : decode cX4_calibrate 279 = .ok (.getfield 80, 3) := by decide +kernel
theorem dX4_calibrate_282 : decode cX4_calibrate 282 = .ok (.aload_n 0, 1) := by decide +kernel
theorem dX4_calibrate_283 : decode cX4_calibrate 283 = .ok (.getfield 19, 3) := by decide +kernel
theorem dX4_calibrate_286 : decode cX4_calibrate 286 = .ok (.iload_n 1, 1) := by decide +kernel
theorem dX4_calibrate_287 : decode cX4_calibrate 287 = .ok (.iaload, 1) := by decide +kernel
theorem dX4_calibrate_288 : decode cX4_calibrate 288 = .ok (.iadd, 1) := by decide +kernel
theorem dX4_calibrate_289 : decode cX4_calibrate 289 = .ok (.iastore, 1) := by decide +kernel
theorem dX4_calibrate_290 : decode cX4_calibrate 290 = .ok (.aload_n 0, 1) := by decide +kernel
theorem dX4_calibrate_291 : decode cX4_calibrate 291 = .ok (.getfield 34, 3) := by decide +kernel
theorem dX4_calibrate_294 : decode cX4_calibrate 294 = .ok (.iload_n 1, 1) := by decide +kernel
theorem dX4_calibrate_295 : decode cX4_calibrate 295 = .ok (.iload_n 3, 1) := by decide +kernel
theorem dX4_calibrate_296 : decode cX4_calibrate 296 = .ok (.iastore, 1) := by decide +kernel
theorem dX4_calibrate_297 : decode cX4_calibrate 297 = .ok (.aload_n 0, 1) := by decide +kernel
theorem dX4_calibrate_298 : decode cX4_calibrate 298 = .ok (.getfield 37, 3) := by decide +kernel
theorem dX4_calibrate_301 : decode cX4_calibrate 301 = .ok (.iload_n 1, 1) := by decide +kernel
theorem dX4_calibrate_302 : decode cX4_calibrate 302 = .ok (.iconst 0, 1) := by decide +kernel
theorem dX4_calibrate_303 : decode cX4_calibrate 303 = .ok (.bastore, 1) := by decide +kernel
theorem dX4_calibrate_304 : decode cX4_calibrate 304 = .ok (.iload 6, 2) := by decide +kernel
theorem dX4_calibrate_306 : decode cX4_calibrate 306 = .ok (.ireturn, 1) := by decide +kernel
theorem dX4_measure_0 : decode cX4_measure 0 = .ok (.aload_n 0, 1) := by decide +kernel
theorem dX4_measure_1 : decode cX4_measure 1 = .ok (.iload_n 1, 1) := by decide +kernel
theorem dX4_measure_2 : decode cX4_measure 2 = .ok (.invokevirtual 69, 3) := by decide +kernel
theorem dX4_measure_5 : decode cX4_measure 5 = .ok (.istore_n 2, 1) := by decide +kernel
theorem dX4_measure_6 : decode cX4_measure 6 = .ok (.aload_n 0, 1) := by decide +kernel
theorem dX4_measure_7 : decode cX4_measure 7 = .ok (.iload_n 2, 1) := by decide +kernel
theorem dX4_measure_8 : decode cX4_measure 8 = .ok (.ifCond .ne 7, 3) := by decide +kernel
theorem dX4_measure_11 : decode cX4_measure 11 = .ok (.iconst 1, 1) := by decide +kernel
theorem dX4_measure_12 : decode cX4_measure 12 = .ok (.goto 27, 3) := by decide +kernel
theorem dX4_measure_15 : decode cX4_measure 15 = .ok (.aload_n 0, 1) := by decide +kernel
theorem dX4_measure_16 : decode cX4_measure 16 = .ok (.iload_n 1, 1) := by decide +kernel
theorem dX4_measure_17 : decode cX4_measure 17 = .ok (.invokevirtual 105, 3) := by decide +kernel
theorem dX4_measure_20 : decode cX4_measure 20 = .ok (.iconst (-1), 1) := by decide +kernel
theorem dX4_measure_21 : decode cX4_measure 21 = .ok (.if_icmp .ne 13, 3) := by decide +kernel
theorem dX4_measure_24 : decode cX4_measure 24 = .ok (.aload_n 0, 1) := by decide +kernel
theorem dX4_measure_25 : decode cX4_measure 25 = .ok (.getfield 89, 3) := by decide +kernel
theorem dX4_measure_28 : decode cX4_measure 28 = .ok (.sipush 200, 3) := by decide +kernel
theorem dX4_measure_31 : decode cX4_measure 31 = .ok (.if_icmp .ne 7, 3) := by decide +kernel
theorem dX4_measure_34 : decode cX4_measure 34 = .ok (.iconst 2, 1) := by decide +kernel
theorem dX4_measure_35 : decode cX4_measure 35 = .ok (.goto 4, 3) := by decide +kernel
theorem dX4_measure_38 : decode cX4_measure 38 = .ok (.iconst 0, 1) := by decide +kernel
theorem dX4_measure_39 : decode cX4_measure 39 = .ok (.invokevirtual 73, 3) := by decide +kernel
theorem dX4_measure_42 : decode cX4_measure 42 = .ok (.ifCond .ne 5, 3) := by decide +kernel
theorem dX4_measure_45 : decode cX4_measure 45 = .ok (.iconst 0, 1) := by decide +kernel
theorem dX4_measure_46 : decode cX4_measure 46 = .ok (.ireturn, 1) := by decide +kernel
theorem dX4_measure_47 : decode cX4_measure 47 = .ok (.aload_n 0, 1) := by decide +kernel
theorem dX4_measure_48 : decode cX4_measure 48 = .ok (.dup, 1) := by decide +kernel
theorem dX4_measure_49 : decode cX4_measure 49 = .ok (.getfield 118, 3) := by decide +kernel
theorem dX4_measure_52 : decode cX4_measure 52 = .ok (.iconst 1, 1) := by decide +kernel
theorem dX4_measure_53 : decode cX4_measure 53 = .ok (.iadd, 1) := by decide +kernel
theorem dX4_measure_54 : decode cX4_measure 54 = .ok (.putfield 118, 3) := by decide +kernel
theorem dX4_measure_57 : decode cX4_measure 57 = .ok (.aload_n 0, 1) := by decide +kernel
theorem dX4_measure_58 : decode cX4_measure 58 = .ok (.getfield 53, 3) := by decide +kernel
theorem dX4_measure_61 : decode cX4_measure 61 = .ok (.aload_n 0, 1) := by decide +kernel
theorem dX4_measure_62 : decode cX4_measure 62 = .ok (.getfield 89, 3) := by decide +kernel
theorem dX4_measure_65 : decode cX4_measure 65 = .ok (.iload_n 1, 1) := by decide +kernel
theorem dX4_measure_66 : decode cX4_measure 66 = .ok (.iastore, 1) := by decide +kernel
theorem dX4_measure_67 : decode cX4_measure 67 = .ok (.aload_n 0, 1) := by decide +kernel
theorem dX4_measure_68 : decode cX4_measure 68 = .ok (.getfield 56, 3) := by decide +kernel
theorem dX4_measure_71 : decode cX4_measure 71 = .ok (.aload_n 0, 1) := by decide +kernel
theorem dX4_measure_72 : decode cX4_measure 72 = .ok (.getfield 89, 3) := by decide +kernel
theorem dX4_measure_75 : decode cX4_measure 75 = .ok (.aload_n 0, 1) := by decide +kernel
theorem dX4_measure_76 : decode cX4_measure 76 = .ok (.getfield 118, 3) := by decide +kernel
theorem dX4_measure_79 : decode cX4_measure 79 = .ok (.iastore, 1) := by decide +kernel
theorem dX4_measure_80 : decode cX4_measure 80 = .ok (.aload_n 0, 1) := by decide +kernel
theorem dX4_measure_81 : decode cX4_measure 81 = .ok (.dup, 1) := by decide +kernel
theorem dX4_measure_82 : decode cX4_measure 82 = .ok (.getfield 89, 3) := by decide +kernel
theorem dX4_measure_85 : decode cX4_measure 85 = .ok (.iconst 1, 1) := by decide +kernel
theorem dX4_measure_86 : decode cX4_measure 86 = .ok (.iadd, 1) := by decide +kernel
theorem dX4_measure_87 : decode cX4_measure 87 = .ok (.putfield 89, 3) := by decide +kernel
theorem dX4_measure_90 : decode cX4_measure 90 = .ok (.aload_n 0, 1) := by decide +kernel
theorem dX4_measure_91 : decode cX4_measure 91 = .ok (.getfield 89, 3) := by decide +kernel
theorem dX4_measure_94 : decode cX4_measure 94 = .ok (.iconst 1, 1) := by decide +kernel
theorem dX4_measure_95 : decode cX4_measure 95 = .ok (.isub, 1) := by decide +kernel
theorem dX4_measure_96 : decode cX4_measure 96 = .ok (.ireturn, 1) := by decide +kernel
theorem dX4_isAsked_0 : decode cX4_isAsked 0 = .ok (.aload_n 0, 1) := by decide +kernel
theorem dX4_isAsked_1 : decode cX4_isAsked 1 = .ok (.aload_n 0, 1) := by decide +kernel
theorem dX4_isAsked_2 : decode cX4_isAsked 2 = .ok (.iload_n 1, 1) := by decide +kernel
theorem dX4_isAsked_3 : decode cX4_isAsked 3 = .ok (.invokevirtual 69, 3) := by decide +kernel
theorem dX4_isAsked_6 : decode cX4_isAsked 6 = .ok (.ifCond .eq 7, 3) := by decide +kernel
theorem dX4_isAsked_9 : decode cX4_isAsked 9 = .ok (.iconst 0, 1) := by decide +kernel
theorem dX4_isAsked_10 : decode cX4_isAsked 10 = .ok (.goto 4, 3) := by decide +kernel
theorem dX4_isAsked_13 : decode cX4_isAsked 13 = .ok (.iconst 1, 1) := by decide +kernel
theorem dX4_isAsked_14 : decode cX4_isAsked 14 = .ok (.invokevirtual 73, 3) := by decide +kernel
theorem dX4_isAsked_17 : decode cX4_isAsked 17 = .ok (.ireturn, 1) := by decide +kernel
theorem dX4_intervalOf_0 : decode cX4_intervalOf 0 = .ok (.aload_n 0, 1) := by decide +kernel
theorem dX4_intervalOf_1 : decode cX4_intervalOf 1 = .ok (.iload_n 1, 1) := by decide +kernel
theorem dX4_intervalOf_2 : decode cX4_intervalOf 2 = .ok (.invokevirtual 121, 3) := by decide +kernel
theorem dX4_intervalOf_5 : decode cX4_intervalOf 5 = .ok (.ifCond .eq 12, 3) := by decide +kernel
theorem dX4_intervalOf_8 : decode cX4_intervalOf 8 = .ok (.aload_n 0, 1) := by decide +kernel
theorem dX4_intervalOf_9 : decode cX4_intervalOf 9 = .ok (.getfield 19, 3) := by decide +kernel
theorem dX4_intervalOf_12 : decode cX4_intervalOf 12 = .ok (.iload_n 1, 1) := by decide +kernel
theorem dX4_intervalOf_13 : decode cX4_intervalOf 13 = .ok (.iaload, 1) := by decide +kernel
theorem dX4_intervalOf_14 : decode cX4_intervalOf 14 = .ok (.goto 4, 3) := by decide +kernel
theorem dX4_intervalOf_17 : decode cX4_intervalOf 17 = .ok (.iconst 0, 1) := by decide +kernel
theorem dX4_intervalOf_18 : decode cX4_intervalOf 18 = .ok (.ireturn, 1) := by decide +kernel
theorem dX4_dueOf_0 : decode cX4_dueOf 0 = .ok (.aload_n 0, 1) := by decide +kernel
theorem dX4_dueOf_1 : decode cX4_dueOf 1 = .ok (.iload_n 1, 1) := by decide +kernel
theorem dX4_dueOf_2 : decode cX4_dueOf 2 = .ok (.invokevirtual 121, 3) := by decide +kernel
theorem dX4_dueOf_5 : decode cX4_dueOf 5 = .ok (.ifCond .ne 5, 3) := by decide +kernel
theorem dX4_dueOf_8 : decode cX4_dueOf 8 = .ok (.iconst 0, 1) := by decide +kernel
theorem dX4_dueOf_9 : decode cX4_dueOf 9 = .ok (.ireturn, 1) := by decide +kernel
theorem dX4_dueOf_10 : decode cX4_dueOf 10 = .ok (.aload_n 0, 1) := by decide +kernel
theorem dX4_dueOf_11 : decode cX4_dueOf 11 = .ok (.iload_n 1, 1) := by decide +kernel
theorem dX4_dueOf_12 : decode cX4_dueOf 12 = .ok (.invokevirtual 83, 3) := by decide +kernel
theorem dX4_dueOf_15 : decode cX4_dueOf 15 = .ok (.ifCond .eq 12, 3) := by decide +kernel
theorem dX4_dueOf_18 : decode cX4_dueOf 18 = .ok (.aload_n 0, 1) := by decide +kernel
theorem dX4_dueOf_19 : decode cX4_dueOf 19 = .ok (.getfield 31, 3) := by decide +kernel
theorem dX4_dueOf_22 : decode cX4_dueOf 22 = .ok (.iload_n 1, 1) := by decide +kernel
theorem dX4_dueOf_23 : decode cX4_dueOf 23 = .ok (.iaload, 1) := by decide +kernel
theorem dX4_dueOf_24 : decode cX4_dueOf 24 = .ok (.goto 4, 3) := by decide +kernel
theorem dX4_dueOf_27 : decode cX4_dueOf 27 = .ok (.iconst (-1), 1) := by decide +kernel
theorem dX4_dueOf_28 : decode cX4_dueOf 28 = .ok (.ireturn, 1) := by decide +kernel
theorem dX4_isSuspect_0 : decode cX4_isSuspect 0 = .ok (.aload_n 0, 1) := by decide +kernel
theorem dX4_isSuspect_1 : decode cX4_isSuspect 1 = .ok (.iload_n 1, 1) := by decide +kernel
theorem dX4_isSuspect_2 : decode cX4_isSuspect 2 = .ok (.invokevirtual 121, 3) := by decide +kernel
theorem dX4_isSuspect_5 : decode cX4_isSuspect 5 = .ok (.ifCond .eq 16, 3) := by decide +kernel
theorem dX4_isSuspect_8 : decode cX4_isSuspect 8 = .ok (.aload_n 0, 1) := by decide +kernel
theorem dX4_isSuspect_9 : decode cX4_isSuspect 9 = .ok (.getfield 37, 3) := by decide +kernel
theorem dX4_isSuspect_12 : decode cX4_isSuspect 12 = .ok (.iload_n 1, 1) := by decide +kernel
theorem dX4_isSuspect_13 : decode cX4_isSuspect 13 = .ok (.baload, 1) := by decide +kernel
theorem dX4_isSuspect_14 : decode cX4_isSuspect 14 = .ok (.ifCond .eq 7, 3) := by decide +kernel
theorem dX4_isSuspect_17 : decode cX4_isSuspect 17 = .ok (.iconst 1, 1) := by decide +kernel
theorem dX4_isSuspect_18 : decode cX4_isSuspect 18 = .ok (.goto 4, 3) := by decide +kernel
theorem dX4_isSuspect_21 : decode cX4_isSuspect 21 = .ok (.iconst 0, 1) := by decide +kernel
theorem dX4_isSuspect_22 : decode cX4_isSuspect 22 = .ok (.ireturn, 1) := by decide +kernel
theorem dX4_distrusted_0 : decode cX4_distrusted 0 = .ok (.aload_n 0, 1) := by decide +kernel
theorem dX4_distrusted_1 : decode cX4_distrusted 1 = .ok (.iload_n 1, 1) := by decide +kernel
theorem dX4_distrusted_2 : decode cX4_distrusted 2 = .ok (.invokevirtual 121, 3) := by decide +kernel
theorem dX4_distrusted_5 : decode cX4_distrusted 5 = .ok (.ifCond .eq 11, 3) := by decide +kernel
theorem dX4_distrusted_8 : decode cX4_distrusted 8 = .ok (.aload_n 0, 1) := by decide +kernel
theorem dX4_distrusted_9 : decode cX4_distrusted 9 = .ok (.iload_n 1, 1) := by decide +kernel
theorem dX4_distrusted_10 : decode cX4_distrusted 10 = .ok (.invokevirtual 105, 3) := by decide +kernel
theorem dX4_distrusted_13 : decode cX4_distrusted 13 = .ok (.goto 4, 3) := by decide +kernel
theorem dX4_distrusted_16 : decode cX4_distrusted 16 = .ok (.iconst 0, 1) := by decide +kernel
theorem dX4_distrusted_17 : decode cX4_distrusted 17 = .ok (.ireturn, 1) := by decide +kernel
theorem dX4_chain_0 : decode cX4_chain 0 = .ok (.aload_n 0, 1) := by decide +kernel
theorem dX4_chain_1 : decode cX4_chain 1 = .ok (.iload_n 1, 1) := by decide +kernel
theorem dX4_chain_2 : decode cX4_chain 2 = .ok (.invokevirtual 121, 3) := by decide +kernel
theorem dX4_chain_5 : decode cX4_chain 5 = .ok (.ifCond .ne 5, 3) := by decide +kernel
theorem dX4_chain_8 : decode cX4_chain 8 = .ok (.iconst 0, 1) := by decide +kernel
theorem dX4_chain_9 : decode cX4_chain 9 = .ok (.ireturn, 1) := by decide +kernel
theorem dX4_chain_10 : decode cX4_chain 10 = .ok (.iconst 0, 1) := by decide +kernel
theorem dX4_chain_11 : decode cX4_chain 11 = .ok (.istore_n 2, 1) := by decide +kernel
theorem dX4_chain_12 : decode cX4_chain 12 = .ok (.iload_n 1, 1) := by decide +kernel
theorem dX4_chain_13 : decode cX4_chain 13 = .ok (.istore_n 3, 1) := by decide +kernel
theorem dX4_chain_14 : decode cX4_chain 14 = .ok (.iload_n 3, 1) := by decide +kernel
theorem dX4_chain_15 : decode cX4_chain 15 = .ok (.iconst (-1), 1) := by decide +kernel
theorem dX4_chain_16 : decode cX4_chain 16 = .ok (.if_icmp .eq 16, 3) := by decide +kernel
theorem dX4_chain_19 : decode cX4_chain 19 = .ok (.iinc 2 1, 3) := by decide +kernel
theorem dX4_chain_22 : decode cX4_chain 22 = .ok (.aload_n 0, 1) := by decide +kernel
theorem dX4_chain_23 : decode cX4_chain 23 = .ok (.getfield 7, 3) := by decide +kernel
theorem dX4_chain_26 : decode cX4_chain 26 = .ok (.iload_n 3, 1) := by decide +kernel
theorem dX4_chain_27 : decode cX4_chain 27 = .ok (.iaload, 1) := by decide +kernel
theorem dX4_chain_28 : decode cX4_chain 28 = .ok (.istore_n 3, 1) := by decide +kernel
theorem dX4_chain_29 : decode cX4_chain 29 = .ok (.goto (-15), 3) := by decide +kernel
theorem dX4_chain_32 : decode cX4_chain 32 = .ok (.iload_n 2, 1) := by decide +kernel
theorem dX4_chain_33 : decode cX4_chain 33 = .ok (.ireturn, 1) := by decide +kernel
theorem dX4_failures_0 : decode cX4_failures 0 = .ok (.aload_n 0, 1) := by decide +kernel
theorem dX4_failures_1 : decode cX4_failures 1 = .ok (.iload_n 1, 1) := by decide +kernel
theorem dX4_failures_2 : decode cX4_failures 2 = .ok (.invokevirtual 121, 3) := by decide +kernel
theorem dX4_failures_5 : decode cX4_failures 5 = .ok (.ifCond .eq 12, 3) := by decide +kernel
theorem dX4_failures_8 : decode cX4_failures 8 = .ok (.aload_n 0, 1) := by decide +kernel
theorem dX4_failures_9 : decode cX4_failures 9 = .ok (.getfield 41, 3) := by decide +kernel
theorem dX4_failures_12 : decode cX4_failures 12 = .ok (.iload_n 1, 1) := by decide +kernel
theorem dX4_failures_13 : decode cX4_failures 13 = .ok (.iaload, 1) := by decide +kernel
theorem dX4_failures_14 : decode cX4_failures 14 = .ok (.goto 4, 3) := by decide +kernel
theorem dX4_failures_17 : decode cX4_failures 17 = .ok (.iconst 0, 1) := by decide +kernel
theorem dX4_failures_18 : decode cX4_failures 18 = .ok (.ireturn, 1) := by decide +kernel
theorem dX4_products_0 : decode cX4_products 0 = .ok (.lconst 0, 1) := by decide +kernel
theorem dX4_products_1 : decode cX4_products 1 = .ok (.lstore_n 2, 1) := by decide +kernel
theorem dX4_products_2 : decode cX4_products 2 = .ok (.bipush 8, 2) := by decide +kernel
theorem dX4_products_4 : decode cX4_products 4 = .ok (.iload_n 1, 1) := by decide +kernel
theorem dX4_products_5 : decode cX4_products 5 = .ok (.imul, 1) := by decide +kernel
theorem dX4_products_6 : decode cX4_products 6 = .ok (.istore 4, 2) := by decide +kernel
theorem dX4_products_8 : decode cX4_products 8 = .ok (.iload 4, 2) := by decide +kernel
theorem dX4_products_10 : decode cX4_products 10 = .ok (.bipush 8, 2) := by decide +kernel
theorem dX4_products_12 : decode cX4_products 12 = .ok (.iload_n 1, 1) := by decide +kernel
theorem dX4_products_13 : decode cX4_products 13 = .ok (.imul, 1) := by decide +kernel
theorem dX4_products_14 : decode cX4_products 14 = .ok (.aload_n 0, 1) := by decide +kernel
theorem dX4_products_15 : decode cX4_products 15 = .ok (.getfield 44, 3) := by decide +kernel
theorem dX4_products_18 : decode cX4_products 18 = .ok (.iload_n 1, 1) := by decide +kernel
theorem dX4_products_19 : decode cX4_products 19 = .ok (.iaload, 1) := by decide +kernel
theorem dX4_products_20 : decode cX4_products 20 = .ok (.iadd, 1) := by decide +kernel
theorem dX4_products_21 : decode cX4_products 21 = .ok (.if_icmp .ge 29, 3) := by decide +kernel
theorem dX4_products_24 : decode cX4_products 24 = .ok (.lload_n 2, 1) := by decide +kernel
theorem dX4_products_25 : decode cX4_products 25 = .ok (.aload_n 0, 1) := by decide +kernel
theorem dX4_products_26 : decode cX4_products 26 = .ok (.getfield 47, 3) := by decide +kernel
theorem dX4_products_29 : decode cX4_products 29 = .ok (.iload 4, 2) := by decide +kernel
theorem dX4_products_31 : decode cX4_products 31 = .ok (.iaload, 1) := by decide +kernel
theorem dX4_products_32 : decode cX4_products 32 = .ok (.i2l, 1) := by decide +kernel
theorem dX4_products_33 : decode cX4_products 33 = .ok (.aload_n 0, 1) := by decide +kernel
theorem dX4_products_34 : decode cX4_products 34 = .ok (.getfield 50, 3) := by decide +kernel
theorem dX4_products_37 : decode cX4_products 37 = .ok (.iload 4, 2) := by decide +kernel
theorem dX4_products_39 : decode cX4_products 39 = .ok (.iaload, 1) := by decide +kernel
theorem dX4_products_40 : decode cX4_products 40 = .ok (.i2l, 1) := by decide +kernel
theorem dX4_products_41 : decode cX4_products 41 = .ok (.lmul, 1) := by decide +kernel
theorem dX4_products_42 : decode cX4_products 42 = .ok (.ladd, 1) := by decide +kernel
theorem dX4_products_43 : decode cX4_products 43 = .ok (.lstore_n 2, 1) := by decide +kernel
theorem dX4_products_44 : decode cX4_products 44 = .ok (.iinc 4 1, 3) := by decide +kernel
theorem dX4_products_47 : decode cX4_products 47 = .ok (.goto (-39), 3) := by decide +kernel
theorem dX4_products_50 : decode cX4_products 50 = .ok (.lload_n 2, 1) := by decide +kernel
theorem dX4_products_51 : decode cX4_products 51 = .ok (.lreturn, 1) := by decide +kernel
theorem dX4_squares_0 : decode cX4_squares 0 = .ok (.lconst 0, 1) := by decide +kernel
theorem dX4_squares_1 : decode cX4_squares 1 = .ok (.lstore_n 2, 1) := by decide +kernel
theorem dX4_squares_2 : decode cX4_squares 2 = .ok (.bipush 8, 2) := by decide +kernel
theorem dX4_squares_4 : decode cX4_squares 4 = .ok (.iload_n 1, 1) := by decide +kernel
theorem dX4_squares_5 : decode cX4_squares 5 = .ok (.imul, 1) := by decide +kernel
theorem dX4_squares_6 : decode cX4_squares 6 = .ok (.istore 4, 2) := by decide +kernel
theorem dX4_squares_8 : decode cX4_squares 8 = .ok (.iload 4, 2) := by decide +kernel
theorem dX4_squares_10 : decode cX4_squares 10 = .ok (.bipush 8, 2) := by decide +kernel
theorem dX4_squares_12 : decode cX4_squares 12 = .ok (.iload_n 1, 1) := by decide +kernel
theorem dX4_squares_13 : decode cX4_squares 13 = .ok (.imul, 1) := by decide +kernel
theorem dX4_squares_14 : decode cX4_squares 14 = .ok (.aload_n 0, 1) := by decide +kernel
theorem dX4_squares_15 : decode cX4_squares 15 = .ok (.getfield 44, 3) := by decide +kernel
theorem dX4_squares_18 : decode cX4_squares 18 = .ok (.iload_n 1, 1) := by decide +kernel
theorem dX4_squares_19 : decode cX4_squares 19 = .ok (.iaload, 1) := by decide +kernel
theorem dX4_squares_20 : decode cX4_squares 20 = .ok (.iadd, 1) := by decide +kernel
theorem dX4_squares_21 : decode cX4_squares 21 = .ok (.if_icmp .ge 29, 3) := by decide +kernel
theorem dX4_squares_24 : decode cX4_squares 24 = .ok (.lload_n 2, 1) := by decide +kernel
theorem dX4_squares_25 : decode cX4_squares 25 = .ok (.aload_n 0, 1) := by decide +kernel
theorem dX4_squares_26 : decode cX4_squares 26 = .ok (.getfield 47, 3) := by decide +kernel
theorem dX4_squares_29 : decode cX4_squares 29 = .ok (.iload 4, 2) := by decide +kernel
theorem dX4_squares_31 : decode cX4_squares 31 = .ok (.iaload, 1) := by decide +kernel
theorem dX4_squares_32 : decode cX4_squares 32 = .ok (.i2l, 1) := by decide +kernel
theorem dX4_squares_33 : decode cX4_squares 33 = .ok (.aload_n 0, 1) := by decide +kernel
theorem dX4_squares_34 : decode cX4_squares 34 = .ok (.getfield 47, 3) := by decide +kernel
theorem dX4_squares_37 : decode cX4_squares 37 = .ok (.iload 4, 2) := by decide +kernel
theorem dX4_squares_39 : decode cX4_squares 39 = .ok (.iaload, 1) := by decide +kernel
theorem dX4_squares_40 : decode cX4_squares 40 = .ok (.i2l, 1) := by decide +kernel
theorem dX4_squares_41 : decode cX4_squares 41 = .ok (.lmul, 1) := by decide +kernel
theorem dX4_squares_42 : decode cX4_squares 42 = .ok (.ladd, 1) := by decide +kernel
theorem dX4_squares_43 : decode cX4_squares 43 = .ok (.lstore_n 2, 1) := by decide +kernel
theorem dX4_squares_44 : decode cX4_squares 44 = .ok (.iinc 4 1, 3) := by decide +kernel
theorem dX4_squares_47 : decode cX4_squares 47 = .ok (.goto (-39), 3) := by decide +kernel
theorem dX4_squares_50 : decode cX4_squares 50 = .ok (.lload_n 2, 1) := by decide +kernel
theorem dX4_squares_51 : decode cX4_squares 51 = .ok (.lreturn, 1) := by decide +kernel
theorem dX4_slope_0 : decode cX4_slope 0 = .ok (.aload_n 0, 1) := by decide +kernel
theorem dX4_slope_1 : decode cX4_slope 1 = .ok (.iload_n 1, 1) := by decide +kernel
theorem dX4_slope_2 : decode cX4_slope 2 = .ok (.invokevirtual 121, 3) := by decide +kernel
theorem dX4_slope_5 : decode cX4_slope 5 = .ok (.ifCond .eq 12, 3) := by decide +kernel
theorem dX4_slope_8 : decode cX4_slope 8 = .ok (.aload_n 0, 1) := by decide +kernel
theorem dX4_slope_9 : decode cX4_slope 9 = .ok (.getfield 44, 3) := by decide +kernel
theorem dX4_slope_12 : decode cX4_slope 12 = .ok (.iload_n 1, 1) := by decide +kernel
theorem dX4_slope_13 : decode cX4_slope 13 = .ok (.iaload, 1) := by decide +kernel
theorem dX4_slope_14 : decode cX4_slope 14 = .ok (.ifCond .ne 5, 3) := by decide +kernel
theorem dX4_slope_17 : decode cX4_slope 17 = .ok (.dconst 0, 1) := by decide +kernel
theorem dX4_slope_18 : decode cX4_slope 18 = .ok (.dreturn, 1) := by decide +kernel
theorem dX4_slope_19 : decode cX4_slope 19 = .ok (.aload_n 0, 1) := by decide +kernel
theorem dX4_slope_20 : decode cX4_slope 20 = .ok (.iload_n 1, 1) := by decide +kernel
theorem dX4_slope_21 : decode cX4_slope 21 = .ok (.invokevirtual 124, 3) := by decide +kernel
theorem dX4_slope_24 : decode cX4_slope 24 = .ok (.l2d, 1) := by decide +kernel
theorem dX4_slope_25 : decode cX4_slope 25 = .ok (.aload_n 0, 1) := by decide +kernel
theorem dX4_slope_26 : decode cX4_slope 26 = .ok (.iload_n 1, 1) := by decide +kernel
theorem dX4_slope_27 : decode cX4_slope 27 = .ok (.invokevirtual 128, 3) := by decide +kernel
theorem dX4_slope_30 : decode cX4_slope 30 = .ok (.l2d, 1) := by decide +kernel
theorem dX4_slope_31 : decode cX4_slope 31 = .ok (.ddiv, 1) := by decide +kernel
theorem dX4_slope_32 : decode cX4_slope 32 = .ok (.dreturn, 1) := by decide +kernel
theorem dX4_errorAt_0 : decode cX4_errorAt 0 = .ok (.aload_n 0, 1) := by decide +kernel
theorem dX4_errorAt_1 : decode cX4_errorAt 1 = .ok (.getfield 44, 3) := by decide +kernel
theorem dX4_errorAt_4 : decode cX4_errorAt 4 = .ok (.iload_n 1, 1) := by decide +kernel
theorem dX4_errorAt_5 : decode cX4_errorAt 5 = .ok (.iaload, 1) := by decide +kernel
theorem dX4_errorAt_6 : decode cX4_errorAt 6 = .ok (.ifCond .ne 11, 3) := by decide +kernel
theorem dX4_errorAt_9 : decode cX4_errorAt 9 = .ok (.aload_n 0, 1) := by decide +kernel
theorem dX4_errorAt_10 : decode cX4_errorAt 10 = .ok (.getfield 34, 3) := by decide +kernel
theorem dX4_errorAt_13 : decode cX4_errorAt 13 = .ok (.iload_n 1, 1) := by decide +kernel
theorem dX4_errorAt_14 : decode cX4_errorAt 14 = .ok (.iaload, 1) := by decide +kernel
theorem dX4_errorAt_15 : decode cX4_errorAt 15 = .ok (.i2l, 1) := by decide +kernel
theorem dX4_errorAt_16 : decode cX4_errorAt 16 = .ok (.lreturn, 1) := by decide +kernel
theorem dX4_errorAt_17 : decode cX4_errorAt 17 = .ok (.aload_n 0, 1) := by decide +kernel
theorem dX4_errorAt_18 : decode cX4_errorAt 18 = .ok (.iload_n 1, 1) := by decide +kernel
theorem dX4_errorAt_19 : decode cX4_errorAt 19 = .ok (.invokevirtual 124, 3) := by decide +kernel
theorem dX4_errorAt_22 : decode cX4_errorAt 22 = .ok (.iload_n 2, 1) := by decide +kernel
theorem dX4_errorAt_23 : decode cX4_errorAt 23 = .ok (.i2l, 1) := by decide +kernel
theorem dX4_errorAt_24 : decode cX4_errorAt 24 = .ok (.lmul, 1) := by decide +kernel
theorem dX4_errorAt_25 : decode cX4_errorAt 25 = .ok (.lstore_n 3, 1) := by decide +kernel
theorem dX4_errorAt_26 : decode cX4_errorAt 26 = .ok (.aload_n 0, 1) := by decide +kernel
theorem dX4_errorAt_27 : decode cX4_errorAt 27 = .ok (.iload_n 1, 1) := by decide +kernel
theorem dX4_errorAt_28 : decode cX4_errorAt 28 = .ok (.invokevirtual 128, 3) := by decide +kernel
theorem dX4_errorAt_31 : decode cX4_errorAt 31 = .ok (.lstore 5, 2) := by decide +kernel
theorem dX4_errorAt_33 : decode cX4_errorAt 33 = .ok (.lload_n 3, 1) := by decide +kernel
theorem dX4_errorAt_34 : decode cX4_errorAt 34 = .ok (.lload 5, 2) := by decide +kernel
theorem dX4_errorAt_36 : decode cX4_errorAt 36 = .ok (.ldiv, 1) := by decide +kernel
theorem dX4_errorAt_37 : decode cX4_errorAt 37 = .ok (.lstore 7, 2) := by decide +kernel
theorem dX4_errorAt_39 : decode cX4_errorAt 39 = .ok (.aload_n 0, 1) := by decide +kernel
theorem dX4_errorAt_40 : decode cX4_errorAt 40 = .ok (.getfield 34, 3) := by decide +kernel
theorem dX4_errorAt_43 : decode cX4_errorAt 43 = .ok (.iload_n 1, 1) := by decide +kernel
theorem dX4_errorAt_44 : decode cX4_errorAt 44 = .ok (.iaload, 1) := by decide +kernel
theorem dX4_errorAt_45 : decode cX4_errorAt 45 = .ok (.i2l, 1) := by decide +kernel
theorem dX4_errorAt_46 : decode cX4_errorAt 46 = .ok (.lload_n 3, 1) := by decide +kernel
theorem dX4_errorAt_47 : decode cX4_errorAt 47 = .ok (.lload 5, 2) := by decide +kernel
theorem dX4_errorAt_49 : decode cX4_errorAt 49 = .ok (.lrem, 1) := by decide +kernel
theorem dX4_errorAt_50 : decode cX4_errorAt 50 = .ok (.lconst 0, 1) := by decide +kernel
theorem dX4_errorAt_51 : decode cX4_errorAt 51 = .ok (.lcmp, 1) := by decide +kernel
theorem dX4_errorAt_52 : decode cX4_errorAt 52 = .ok (.ifCond .ge 10, 3) := by decide +kernel
theorem dX4_errorAt_55 : decode cX4_errorAt 55 = .ok (.lload 7, 2) := by decide +kernel
theorem dX4_errorAt_57 : decode cX4_errorAt 57 = .ok (.lconst 1, 1) := by decide +kernel
theorem dX4_errorAt_58 : decode cX4_errorAt 58 = .ok (.lsub, 1) := by decide +kernel
theorem dX4_errorAt_59 : decode cX4_errorAt 59 = .ok (.goto 5, 3) := by decide +kernel
theorem dX4_errorAt_62 : decode cX4_errorAt 62 = .ok (.lload 7, 2) := by decide +kernel
theorem dX4_errorAt_64 : decode cX4_errorAt 64 = .ok (.ladd, 1) := by decide +kernel
theorem dX4_errorAt_65 : decode cX4_errorAt 65 = .ok (.lreturn, 1) := by decide +kernel
theorem dX4_expected_0 : decode cX4_expected 0 = .ok (.aload_n 0, 1) := by decide +kernel
theorem dX4_expected_1 : decode cX4_expected 1 = .ok (.iload_n 1, 1) := by decide +kernel
theorem dX4_expected_2 : decode cX4_expected 2 = .ok (.invokevirtual 69, 3) := by decide +kernel
theorem dX4_expected_5 : decode cX4_expected 5 = .ok (.istore_n 3, 1) := by decide +kernel
theorem dX4_expected_6 : decode cX4_expected 6 = .ok (.aload_n 0, 1) := by decide +kernel
theorem dX4_expected_7 : decode cX4_expected 7 = .ok (.iload_n 3, 1) := by decide +kernel
theorem dX4_expected_8 : decode cX4_expected 8 = .ok (.ifCond .ne 7, 3) := by decide +kernel
theorem dX4_expected_11 : decode cX4_expected 11 = .ok (.iconst 1, 1) := by decide +kernel
theorem dX4_expected_12 : decode cX4_expected 12 = .ok (.goto 31, 3) := by decide +kernel
theorem dX4_expected_15 : decode cX4_expected 15 = .ok (.iload_n 2, 1) := by decide +kernel
theorem dX4_expected_16 : decode cX4_expected 16 = .ok (.ifCond .lt 10, 3) := by decide +kernel
theorem dX4_expected_19 : decode cX4_expected 19 = .ok (.iload_n 2, 1) := by decide +kernel
theorem dX4_expected_20 : decode cX4_expected 20 = .ok (.sipush 9999, 3) := by decide +kernel
theorem dX4_expected_23 : decode cX4_expected 23 = .ok (.if_icmp .le 7, 3) := by decide +kernel
theorem dX4_expected_26 : decode cX4_expected 26 = .ok (.iconst 2, 1) := by decide +kernel
theorem dX4_expected_27 : decode cX4_expected 27 = .ok (.goto 16, 3) := by decide +kernel
theorem dX4_expected_30 : decode cX4_expected 30 = .ok (.aload_n 0, 1) := by decide +kernel
theorem dX4_expected_31 : decode cX4_expected 31 = .ok (.iload_n 1, 1) := by decide +kernel
theorem dX4_expected_32 : decode cX4_expected 32 = .ok (.invokevirtual 83, 3) := by decide +kernel
theorem dX4_expected_35 : decode cX4_expected 35 = .ok (.ifCond .eq 7, 3) := by decide +kernel
theorem dX4_expected_38 : decode cX4_expected 38 = .ok (.iconst 0, 1) := by decide +kernel
theorem dX4_expected_39 : decode cX4_expected 39 = .ok (.goto 4, 3) := by decide +kernel
theorem dX4_expected_42 : decode cX4_expected 42 = .ok (.iconst 3, 1) := by decide +kernel
theorem dX4_expected_43 : decode cX4_expected 43 = .ok (.invokevirtual 73, 3) := by decide +kernel
theorem dX4_expected_46 : decode cX4_expected 46 = .ok (.ifCond .ne 5, 3) := by decide +kernel
theorem dX4_expected_49 : decode cX4_expected 49 = .ok (.lconst 0, 1) := by decide +kernel
theorem dX4_expected_50 : decode cX4_expected 50 = .ok (.lreturn, 1) := by decide +kernel
theorem dX4_expected_51 : decode cX4_expected 51 = .ok (.aload_n 0, 1) := by decide +kernel
theorem dX4_expected_52 : decode cX4_expected 52 = .ok (.iload_n 1, 1) := by decide +kernel
theorem dX4_expected_53 : decode cX4_expected 53 = .ok (.iload_n 2, 1) := by decide +kernel
theorem dX4_expected_54 : decode cX4_expected 54 = .ok (.invokevirtual 131, 3) := by decide +kernel
theorem dX4_expected_57 : decode cX4_expected 57 = .ok (.lreturn, 1) := by decide +kernel
theorem dX4_driftsOut_0 : decode cX4_driftsOut 0 = .ok (.aload_n 0, 1) := by decide +kernel
theorem dX4_driftsOut_1 : decode cX4_driftsOut 1 = .ok (.iload_n 1, 1) := by decide +kernel
theorem dX4_driftsOut_2 : decode cX4_driftsOut 2 = .ok (.invokevirtual 121, 3) := by decide +kernel
theorem dX4_driftsOut_5 : decode cX4_driftsOut 5 = .ok (.ifCond .eq 11, 3) := by decide +kernel
theorem dX4_driftsOut_8 : decode cX4_driftsOut 8 = .ok (.aload_n 0, 1) := by decide +kernel
theorem dX4_driftsOut_9 : decode cX4_driftsOut 9 = .ok (.iload_n 1, 1) := by decide +kernel
theorem dX4_driftsOut_10 : decode cX4_driftsOut 10 = .ok (.invokevirtual 83, 3) := by decide +kernel
theorem dX4_driftsOut_13 : decode cX4_driftsOut 13 = .ok (.ifCond .ne 5, 3) := by decide +kernel
theorem dX4_driftsOut_16 : decode cX4_driftsOut 16 = .ok (.iconst (-1), 1) := by decide +kernel
theorem dX4_driftsOut_17 : decode cX4_driftsOut 17 = .ok (.ireturn, 1) := by decide +kernel
theorem dX4_driftsOut_18 : decode cX4_driftsOut 18 = .ok (.iconst 0, 1) := by decide +kernel
theorem dX4_driftsOut_19 : decode cX4_driftsOut 19 = .ok (.istore_n 2, 1) := by decide +kernel
theorem dX4_driftsOut_20 : decode cX4_driftsOut 20 = .ok (.iload_n 2, 1) := by decide +kernel
theorem dX4_driftsOut_21 : decode cX4_driftsOut 21 = .ok (.sipush 9999, 3) := by decide +kernel
theorem dX4_driftsOut_24 : decode cX4_driftsOut 24 = .ok (.if_icmp .gt 43, 3) := by decide +kernel
theorem dX4_driftsOut_27 : decode cX4_driftsOut 27 = .ok (.aload_n 0, 1) := by decide +kernel
theorem dX4_driftsOut_28 : decode cX4_driftsOut 28 = .ok (.iload_n 1, 1) := by decide +kernel
theorem dX4_driftsOut_29 : decode cX4_driftsOut 29 = .ok (.iload_n 2, 1) := by decide +kernel
theorem dX4_driftsOut_30 : decode cX4_driftsOut 30 = .ok (.invokevirtual 131, 3) := by decide +kernel
theorem dX4_driftsOut_33 : decode cX4_driftsOut 33 = .ok (.lstore_n 3, 1) := by decide +kernel
theorem dX4_driftsOut_34 : decode cX4_driftsOut 34 = .ok (.lload_n 3, 1) := by decide +kernel
theorem dX4_driftsOut_35 : decode cX4_driftsOut 35 = .ok (.aload_n 0, 1) := by decide +kernel
theorem dX4_driftsOut_36 : decode cX4_driftsOut 36 = .ok (.getfield 13, 3) := by decide +kernel
theorem dX4_driftsOut_39 : decode cX4_driftsOut 39 = .ok (.iload_n 1, 1) := by decide +kernel
theorem dX4_driftsOut_40 : decode cX4_driftsOut 40 = .ok (.iaload, 1) := by decide +kernel
theorem dX4_driftsOut_41 : decode cX4_driftsOut 41 = .ok (.i2l, 1) := by decide +kernel
theorem dX4_driftsOut_42 : decode cX4_driftsOut 42 = .ok (.lcmp, 1) := by decide +kernel
theorem dX4_driftsOut_43 : decode cX4_driftsOut 43 = .ok (.ifCond .gt 16, 3) := by decide +kernel
theorem dX4_driftsOut_46 : decode cX4_driftsOut 46 = .ok (.lload_n 3, 1) := by decide +kernel
theorem dX4_driftsOut_47 : decode cX4_driftsOut 47 = .ok (.lneg, 1) := by decide +kernel
theorem dX4_driftsOut_48 : decode cX4_driftsOut 48 = .ok (.aload_n 0, 1) := by decide +kernel
theorem dX4_driftsOut_49 : decode cX4_driftsOut 49 = .ok (.getfield 13, 3) := by decide +kernel
theorem dX4_driftsOut_52 : decode cX4_driftsOut 52 = .ok (.iload_n 1, 1) := by decide +kernel
theorem dX4_driftsOut_53 : decode cX4_driftsOut 53 = .ok (.iaload, 1) := by decide +kernel
theorem dX4_driftsOut_54 : decode cX4_driftsOut 54 = .ok (.i2l, 1) := by decide +kernel
theorem dX4_driftsOut_55 : decode cX4_driftsOut 55 = .ok (.lcmp, 1) := by decide +kernel
theorem dX4_driftsOut_56 : decode cX4_driftsOut 56 = .ok (.ifCond .le 5, 3) := by decide +kernel
theorem dX4_driftsOut_59 : decode cX4_driftsOut 59 = .ok (.iload_n 2, 1) := by decide +kernel
theorem dX4_driftsOut_60 : decode cX4_driftsOut 60 = .ok (.ireturn, 1) := by decide +kernel
theorem dX4_driftsOut_61 : decode cX4_driftsOut 61 = .ok (.iinc 2 1, 3) := by decide +kernel
theorem dX4_driftsOut_64 : decode cX4_driftsOut 64 = .ok (.goto (-44), 3) := by decide +kernel
theorem dX4_driftsOut_67 : decode cX4_driftsOut 67 = .ok (.iconst (-1), 1) := by decide +kernel
theorem dX4_driftsOut_68 : decode cX4_driftsOut 68 = .ok (.ireturn, 1) := by decide +kernel
theorem dX4_root_0 : decode cX4_root 0 = .ok (.iconst 0, 1) := by decide +kernel
theorem dX4_root_1 : decode cX4_root 1 = .ok (.istore_n 1, 1) := by decide +kernel
theorem dX4_root_2 : decode cX4_root 2 = .ok (.iload_n 1, 1) := by decide +kernel
theorem dX4_root_3 : decode cX4_root 3 = .ok (.iload_n 1, 1) := by decide +kernel
theorem dX4_root_4 : decode cX4_root 4 = .ok (.imul, 1) := by decide +kernel
theorem dX4_root_5 : decode cX4_root 5 = .ok (.iload_n 0, 1) := by decide +kernel
theorem dX4_root_6 : decode cX4_root 6 = .ok (.if_icmp .ge 9, 3) := by decide +kernel
theorem dX4_root_9 : decode cX4_root 9 = .ok (.iinc 1 1, 3) := by decide +kernel
theorem dX4_root_12 : decode cX4_root 12 = .ok (.goto (-10), 3) := by decide +kernel
theorem dX4_root_15 : decode cX4_root 15 = .ok (.iload_n 1, 1) := by decide +kernel
theorem dX4_root_16 : decode cX4_root 16 = .ok (.ireturn, 1) := by decide +kernel
theorem dX4_withChain_0 : decode cX4_withChain 0 = .ok (.iconst 0, 1) := by decide +kernel
theorem dX4_withChain_1 : decode cX4_withChain 1 = .ok (.istore_n 2, 1) := by decide +kernel
theorem dX4_withChain_2 : decode cX4_withChain 2 = .ok (.iload_n 1, 1) := by decide +kernel
theorem dX4_withChain_3 : decode cX4_withChain 3 = .ok (.istore_n 3, 1) := by decide +kernel
theorem dX4_withChain_4 : decode cX4_withChain 4 = .ok (.aload_n 0, 1) := by decide +kernel
theorem dX4_withChain_5 : decode cX4_withChain 5 = .ok (.getfield 7, 3) := by decide +kernel
theorem dX4_withChain_8 : decode cX4_withChain 8 = .ok (.iload_n 3, 1) := by decide +kernel
theorem dX4_withChain_9 : decode cX4_withChain 9 = .ok (.iaload, 1) := by decide +kernel
theorem dX4_withChain_10 : decode cX4_withChain 10 = .ok (.iconst (-1), 1) := by decide +kernel
theorem dX4_withChain_11 : decode cX4_withChain 11 = .ok (.if_icmp .eq 16, 3) := by decide +kernel
theorem dX4_withChain_14 : decode cX4_withChain 14 = .ok (.iinc 2 1, 3) := by decide +kernel
theorem dX4_withChain_17 : decode cX4_withChain 17 = .ok (.aload_n 0, 1) := by decide +kernel
theorem dX4_withChain_18 : decode cX4_withChain 18 = .ok (.getfield 7, 3) := by decide +kernel
theorem dX4_withChain_21 : decode cX4_withChain 21 = .ok (.iload_n 3, 1) := by decide +kernel
theorem dX4_withChain_22 : decode cX4_withChain 22 = .ok (.iaload, 1) := by decide +kernel
theorem dX4_withChain_23 : decode cX4_withChain 23 = .ok (.istore_n 3, 1) := by decide +kernel
theorem dX4_withChain_24 : decode cX4_withChain 24 = .ok (.goto (-20), 3) := by decide +kernel
theorem dX4_withChain_27 : decode cX4_withChain 27 = .ok (.iconst 0, 1) := by decide +kernel
theorem dX4_withChain_28 : decode cX4_withChain 28 = .ok (.istore_n 3, 1) := by decide +kernel
theorem dX4_withChain_29 : decode cX4_withChain 29 = .ok (.iload_n 2, 1) := by decide +kernel
theorem dX4_withChain_30 : decode cX4_withChain 30 = .ok (.istore 4, 2) := by decide +kernel
theorem dX4_withChain_32 : decode cX4_withChain 32 = .ok (.iload 4, 2) := by decide +kernel
theorem dX4_withChain_34 : decode cX4_withChain 34 = .ok (.ifCond .lt 76, 3) := by decide +kernel
theorem dX4_withChain_37 : decode cX4_withChain 37 = .ok (.iload_n 1, 1) := by decide +kernel
theorem dX4_withChain_38 : decode cX4_withChain 38 = .ok (.istore 5, 2) := by decide +kernel
theorem dX4_withChain_40 : decode cX4_withChain 40 = .ok (.iconst 0, 1) := by decide +kernel
theorem dX4_withChain_41 : decode cX4_withChain 41 = .ok (.istore 6, 2) := by decide +kernel
theorem dX4_withChain_43 : decode cX4_withChain 43 = .ok (.iload 6, 2) := by decide +kernel
theorem dX4_withChain_45 : decode cX4_withChain 45 = .ok (.iload 4, 2) := by decide +kernel
theorem dX4_withChain_47 : decode cX4_withChain 47 = .ok (.if_icmp .ge 18, 3) := by decide +kernel
theorem dX4_withChain_50 : decode cX4_withChain 50 = .ok (.aload_n 0, 1) := by decide +kernel
theorem dX4_withChain_51 : decode cX4_withChain 51 = .ok (.getfield 7, 3) := by decide +kernel
theorem dX4_withChain_54 : decode cX4_withChain 54 = .ok (.iload 5, 2) := by decide +kernel
theorem dX4_withChain_56 : decode cX4_withChain 56 = .ok (.iaload, 1) := by decide +kernel
theorem dX4_withChain_57 : decode cX4_withChain 57 = .ok (.istore 5, 2) := by decide +kernel
theorem dX4_withChain_59 : decode cX4_withChain 59 = .ok (.iinc 6 1, 3) := by decide +kernel
theorem dX4_withChain_62 : decode cX4_withChain 62 = .ok (.goto (-19), 3) := by decide +kernel
theorem dX4_withChain_65 : decode cX4_withChain 65 = .ok (.iload 4, 2) := by decide +kernel
theorem dX4_withChain_67 : decode cX4_withChain 67 = .ok (.iload_n 2, 1) := by decide +kernel
theorem dX4_withChain_68 : decode cX4_withChain 68 = .ok (.if_icmp .ne 13, 3) := by decide +kernel
theorem dX4_withChain_71 : decode cX4_withChain 71 = .ok (.aload_n 0, 1) := by decide +kernel
theorem dX4_withChain_72 : decode cX4_withChain 72 = .ok (.getfield 16, 3) := by decide +kernel
theorem dX4_withChain_75 : decode cX4_withChain 75 = .ok (.iload 5, 2) := by decide +kernel
theorem dX4_withChain_77 : decode cX4_withChain 77 = .ok (.iaload, 1) := by decide +kernel
theorem dX4_withChain_78 : decode cX4_withChain 78 = .ok (.goto 25, 3) := by decide +kernel
theorem dX4_withChain_81 : decode cX4_withChain 81 = .ok (.aload_n 0, 1) := by decide +kernel
theorem dX4_withChain_82 : decode cX4_withChain 82 = .ok (.getfield 16, 3) := by decide +kernel
theorem dX4_withChain_85 : decode cX4_withChain 85 = .ok (.iload 5, 2) := by decide +kernel
theorem dX4_withChain_87 : decode cX4_withChain 87 = .ok (.iaload, 1) := by decide +kernel
theorem dX4_withChain_88 : decode cX4_withChain 88 = .ok (.aload_n 0, 1) := by decide +kernel
theorem dX4_withChain_89 : decode cX4_withChain 89 = .ok (.getfield 16, 3) := by decide +kernel
theorem dX4_withChain_92 : decode cX4_withChain 92 = .ok (.iload 5, 2) := by decide +kernel
theorem dX4_withChain_94 : decode cX4_withChain 94 = .ok (.iaload, 1) := by decide +kernel
theorem dX4_withChain_95 : decode cX4_withChain 95 = .ok (.imul, 1) := by decide +kernel
theorem dX4_withChain_96 : decode cX4_withChain 96 = .ok (.iload_n 3, 1) := by decide +kernel
theorem dX4_withChain_97 : decode cX4_withChain 97 = .ok (.iload_n 3, 1) := by decide +kernel
theorem dX4_withChain_98 : decode cX4_withChain 98 = .ok (.imul, 1) := by decide +kernel
theorem dX4_withChain_99 : decode cX4_withChain 99 = .ok (.iadd, 1) := by decide +kernel
theorem dX4_withChain_100 : decode cX4_withChain 100 = .ok (.invokestatic 135, 3) := by decide +kernel
theorem dX4_withChain_103 : decode cX4_withChain 103 = .ok (.istore_n 3, 1) := by decide +kernel
theorem dX4_withChain_104 : decode cX4_withChain 104 = .ok (.iinc 4 (-1), 3) := by decide +kernel
theorem dX4_withChain_107 : decode cX4_withChain 107 = .ok (.goto (-75), 3) := by decide +kernel
theorem dX4_withChain_110 : decode cX4_withChain 110 = .ok (.iload_n 3, 1) := by decide +kernel
theorem dX4_withChain_111 : decode cX4_withChain 111 = .ok (.ireturn, 1) := by decide +kernel
theorem dX4_uncertainty_0 : decode cX4_uncertainty 0 = .ok (.aload_n 0, 1) := by decide +kernel
theorem dX4_uncertainty_1 : decode cX4_uncertainty 1 = .ok (.iload_n 1, 1) := by decide +kernel
theorem dX4_uncertainty_2 : decode cX4_uncertainty 2 = .ok (.invokevirtual 121, 3) := by decide +kernel
theorem dX4_uncertainty_5 : decode cX4_uncertainty 5 = .ok (.ifCond .eq 11, 3) := by decide +kernel
theorem dX4_uncertainty_8 : decode cX4_uncertainty 8 = .ok (.aload_n 0, 1) := by decide +kernel
theorem dX4_uncertainty_9 : decode cX4_uncertainty 9 = .ok (.iload_n 1, 1) := by decide +kernel
theorem dX4_uncertainty_10 : decode cX4_uncertainty 10 = .ok (.invokevirtual 138, 3) := by decide +kernel
theorem dX4_uncertainty_13 : decode cX4_uncertainty 13 = .ok (.goto 4, 3) := by decide +kernel
theorem dX4_uncertainty_16 : decode cX4_uncertainty 16 = .ok (.iconst 0, 1) := by decide +kernel
theorem dX4_uncertainty_17 : decode cX4_uncertainty 17 = .ok (.ireturn, 1) := by decide +kernel
theorem dX4_limit_0 : decode cX4_limit 0 = .ok (.aload_n 0, 1) := by decide +kernel
theorem dX4_limit_1 : decode cX4_limit 1 = .ok (.iload_n 1, 1) := by decide +kernel
theorem dX4_limit_2 : decode cX4_limit 2 = .ok (.invokevirtual 121, 3) := by decide +kernel
theorem dX4_limit_5 : decode cX4_limit 5 = .ok (.ifCond .ne 5, 3) := by decide +kernel
theorem dX4_limit_8 : decode cX4_limit 8 = .ok (.iconst 0, 1) := by decide +kernel
theorem dX4_limit_9 : decode cX4_limit 9 = .ok (.ireturn, 1) := by decide +kernel
theorem dX4_limit_10 : decode cX4_limit 10 = .ok (.aload_n 0, 1) := by decide +kernel
theorem dX4_limit_11 : decode cX4_limit 11 = .ok (.getfield 13, 3) := by decide +kernel
theorem dX4_limit_14 : decode cX4_limit 14 = .ok (.iload_n 1, 1) := by decide +kernel
theorem dX4_limit_15 : decode cX4_limit 15 = .ok (.iaload, 1) := by decide +kernel
theorem dX4_limit_16 : decode cX4_limit 16 = .ok (.aload_n 0, 1) := by decide +kernel
theorem dX4_limit_17 : decode cX4_limit 17 = .ok (.iload_n 1, 1) := by decide +kernel
theorem dX4_limit_18 : decode cX4_limit 18 = .ok (.invokevirtual 138, 3) := by decide +kernel
theorem dX4_limit_21 : decode cX4_limit 21 = .ok (.isub, 1) := by decide +kernel
theorem dX4_limit_22 : decode cX4_limit 22 = .ok (.istore_n 2, 1) := by decide +kernel
theorem dX4_limit_23 : decode cX4_limit 23 = .ok (.iload_n 2, 1) := by decide +kernel
theorem dX4_limit_24 : decode cX4_limit 24 = .ok (.ifCond .ge 7, 3) := by decide +kernel
theorem dX4_limit_27 : decode cX4_limit 27 = .ok (.iconst 0, 1) := by decide +kernel
theorem dX4_limit_28 : decode cX4_limit 28 = .ok (.goto 4, 3) := by decide +kernel
theorem dX4_limit_31 : decode cX4_limit 31 = .ok (.iload_n 2, 1) := by decide +kernel
theorem dX4_limit_32 : decode cX4_limit 32 = .ok (.ireturn, 1) := by decide +kernel
theorem dX4_measurements_0 : decode cX4_measurements 0 = .ok (.aload_n 0, 1) := by decide +kernel
theorem dX4_measurements_1 : decode cX4_measurements 1 = .ok (.iconst 0, 1) := by decide +kernel
theorem dX4_measurements_2 : decode cX4_measurements 2 = .ok (.putfield 62, 3) := by decide +kernel
theorem dX4_measurements_5 : decode cX4_measurements 5 = .ok (.aload_n 0, 1) := by decide +kernel
theorem dX4_measurements_6 : decode cX4_measurements 6 = .ok (.getfield 89, 3) := by decide +kernel
theorem dX4_measurements_9 : decode cX4_measurements 9 = .ok (.ireturn, 1) := by decide +kernel
theorem dX4_isCalledBack_0 : decode cX4_isCalledBack 0 = .ok (.aload_n 0, 1) := by decide +kernel
theorem dX4_isCalledBack_1 : decode cX4_isCalledBack 1 = .ok (.iload_n 1, 1) := by decide +kernel
theorem dX4_isCalledBack_2 : decode cX4_isCalledBack 2 = .ok (.ifCond .lt 15, 3) := by decide +kernel
theorem dX4_isCalledBack_5 : decode cX4_isCalledBack 5 = .ok (.iload_n 1, 1) := by decide +kernel
theorem dX4_isCalledBack_6 : decode cX4_isCalledBack 6 = .ok (.aload_n 0, 1) := by decide +kernel
theorem dX4_isCalledBack_7 : decode cX4_isCalledBack 7 = .ok (.getfield 89, 3) := by decide +kernel
theorem dX4_isCalledBack_10 : decode cX4_isCalledBack 10 = .ok (.if_icmp .ge 7, 3) := by decide +kernel
theorem dX4_isCalledBack_13 : decode cX4_isCalledBack 13 = .ok (.iconst 0, 1) := by decide +kernel
theorem dX4_isCalledBack_14 : decode cX4_isCalledBack 14 = .ok (.goto 4, 3) := by decide +kernel
theorem dX4_isCalledBack_17 : decode cX4_isCalledBack 17 = .ok (.iconst 1, 1) := by decide +kernel
theorem dX4_isCalledBack_18 : decode cX4_isCalledBack 18 = .ok (.invokevirtual 73, 3) := by decide +kernel
theorem dX4_isCalledBack_21 : decode cX4_isCalledBack 21 = .ok (.ifCond .eq 16, 3) := by decide +kernel
theorem dX4_isCalledBack_24 : decode cX4_isCalledBack 24 = .ok (.aload_n 0, 1) := by decide +kernel
theorem dX4_isCalledBack_25 : decode cX4_isCalledBack 25 = .ok (.getfield 59, 3) := by decide +kernel
theorem dX4_isCalledBack_28 : decode cX4_isCalledBack 28 = .ok (.iload_n 1, 1) := by decide +kernel
theorem dX4_isCalledBack_29 : decode cX4_isCalledBack 29 = .ok (.baload, 1) := by decide +kernel
theorem dX4_isCalledBack_30 : decode cX4_isCalledBack 30 = .ok (.ifCond .eq 7, 3) := by decide +kernel
theorem dX4_isCalledBack_33 : decode cX4_isCalledBack 33 = .ok (.iconst 1, 1) := by decide +kernel
theorem dX4_isCalledBack_34 : decode cX4_isCalledBack 34 = .ok (.goto 4, 3) := by decide +kernel
theorem dX4_isCalledBack_37 : decode cX4_isCalledBack 37 = .ok (.iconst 0, 1) := by decide +kernel
theorem dX4_isCalledBack_38 : decode cX4_isCalledBack 38 = .ok (.ireturn, 1) := by decide +kernel
theorem dX4_calledNow_0 : decode cX4_calledNow 0 = .ok (.iconst 0, 1) := by decide +kernel
theorem dX4_calledNow_1 : decode cX4_calledNow 1 = .ok (.istore_n 1, 1) := by decide +kernel
theorem dX4_calledNow_2 : decode cX4_calledNow 2 = .ok (.iconst 0, 1) := by decide +kernel
theorem dX4_calledNow_3 : decode cX4_calledNow 3 = .ok (.istore_n 2, 1) := by decide +kernel
theorem dX4_calledNow_4 : decode cX4_calledNow 4 = .ok (.iload_n 2, 1) := by decide +kernel
theorem dX4_calledNow_5 : decode cX4_calledNow 5 = .ok (.aload_n 0, 1) := by decide +kernel
theorem dX4_calledNow_6 : decode cX4_calledNow 6 = .ok (.getfield 89, 3) := by decide +kernel
theorem dX4_calledNow_9 : decode cX4_calledNow 9 = .ok (.if_icmp .ge 26, 3) := by decide +kernel
theorem dX4_calledNow_12 : decode cX4_calledNow 12 = .ok (.iload_n 1, 1) := by decide +kernel
theorem dX4_calledNow_13 : decode cX4_calledNow 13 = .ok (.aload_n 0, 1) := by decide +kernel
theorem dX4_calledNow_14 : decode cX4_calledNow 14 = .ok (.getfield 59, 3) := by decide +kernel
theorem dX4_calledNow_17 : decode cX4_calledNow 17 = .ok (.iload_n 2, 1) := by decide +kernel
theorem dX4_calledNow_18 : decode cX4_calledNow 18 = .ok (.baload, 1) := by decide +kernel
theorem dX4_calledNow_19 : decode cX4_calledNow 19 = .ok (.ifCond .eq 7, 3) := by decide +kernel
theorem dX4_calledNow_22 : decode cX4_calledNow 22 = .ok (.iconst 1, 1) := by decide +kernel
theorem dX4_calledNow_23 : decode cX4_calledNow 23 = .ok (.goto 4, 3) := by decide +kernel
theorem dX4_calledNow_26 : decode cX4_calledNow 26 = .ok (.iconst 0, 1) := by decide +kernel
theorem dX4_calledNow_27 : decode cX4_calledNow 27 = .ok (.iadd, 1) := by decide +kernel
theorem dX4_calledNow_28 : decode cX4_calledNow 28 = .ok (.istore_n 1, 1) := by decide +kernel
theorem dX4_calledNow_29 : decode cX4_calledNow 29 = .ok (.iinc 2 1, 3) := by decide +kernel
theorem dX4_calledNow_32 : decode cX4_calledNow 32 = .ok (.goto (-28), 3) := by decide +kernel
theorem dX4_calledNow_35 : decode cX4_calledNow 35 = .ok (.iload_n 1, 1) := by decide +kernel
theorem dX4_calledNow_36 : decode cX4_calledNow 36 = .ok (.ireturn, 1) := by decide +kernel
theorem dX4_calledBack_0 : decode cX4_calledBack 0 = .ok (.aload_n 0, 1) := by decide +kernel
theorem dX4_calledBack_1 : decode cX4_calledBack 1 = .ok (.iconst 0, 1) := by decide +kernel
theorem dX4_calledBack_2 : decode cX4_calledBack 2 = .ok (.putfield 62, 3) := by decide +kernel
theorem dX4_calledBack_5 : decode cX4_calledBack 5 = .ok (.aload_n 0, 1) := by decide +kernel
theorem dX4_calledBack_6 : decode cX4_calledBack 6 = .ok (.invokevirtual 141, 3) := by decide +kernel
theorem dX4_calledBack_9 : decode cX4_calledBack 9 = .ok (.ireturn, 1) := by decide +kernel
theorem dX4_calledBackByLog_0 : decode cX4_calledBackByLog 0 = .ok (.aload_n 0, 1) := by decide +kernel
theorem dX4_calledBackByLog_1 : decode cX4_calledBackByLog 1 = .ok (.iconst 0, 1) := by decide +kernel
theorem dX4_calledBackByLog_2 : decode cX4_calledBackByLog 2 = .ok (.putfield 62, 3) := by decide +kernel
theorem dX4_calledBackByLog_5 : decode cX4_calledBackByLog 5 = .ok (.aload_n 0, 1) := by decide +kernel
theorem dX4_calledBackByLog_6 : decode cX4_calledBackByLog 6 = .ok (.invokevirtual 141, 3) := by decide +kernel
theorem dX4_calledBackByLog_9 : decode cX4_calledBackByLog 9 = .ok (.ireturn, 1) := by decide +kernel
theorem dX4_atStake_0 : decode cX4_atStake 0 = .ok (.aload_n 0, 1) := by decide +kernel
theorem dX4_atStake_1 : decode cX4_atStake 1 = .ok (.iload_n 1, 1) := by decide +kernel
theorem dX4_atStake_2 : decode cX4_atStake 2 = .ok (.invokevirtual 121, 3) := by decide +kernel
theorem dX4_atStake_5 : decode cX4_atStake 5 = .ok (.ifCond .eq 24, 3) := by decide +kernel
theorem dX4_atStake_8 : decode cX4_atStake 8 = .ok (.aload_n 0, 1) := by decide +kernel
theorem dX4_atStake_9 : decode cX4_atStake 9 = .ok (.iload_n 1, 1) := by decide +kernel
theorem dX4_atStake_10 : decode cX4_atStake 10 = .ok (.invokevirtual 83, 3) := by decide +kernel
theorem dX4_atStake_13 : decode cX4_atStake 13 = .ok (.ifCond .eq 16, 3) := by decide +kernel
theorem dX4_atStake_16 : decode cX4_atStake 16 = .ok (.aload_n 0, 1) := by decide +kernel
theorem dX4_atStake_17 : decode cX4_atStake 17 = .ok (.aload_n 0, 1) := by decide +kernel
theorem dX4_atStake_18 : decode cX4_atStake 18 = .ok (.iload_n 1, 1) := by decide +kernel
theorem dX4_atStake_19 : decode cX4_atStake 19 = .ok (.invokevirtual 92, 3) := by decide +kernel
theorem dX4_atStake_22 : decode cX4_atStake 22 = .ok (.iconst 0, 1) := by decide +kernel
theorem dX4_atStake_23 : decode cX4_atStake 23 = .ok (.invokevirtual 96, 3) := by decide +kernel
theorem dX4_atStake_26 : decode cX4_atStake 26 = .ok (.goto 4, 3) := by decide +kernel
theorem dX4_atStake_29 : decode cX4_atStake 29 = .ok (.iconst 0, 1) := by decide +kernel
theorem dX4_atStake_30 : decode cX4_atStake 30 = .ok (.ireturn, 1) := by decide +kernel
theorem dX4_dayOnBench_0 : decode cX4_dayOnBench 0 = .ok (.iconst 0, 1) := by decide +kernel
theorem dX4_dayOnBench_1 : decode cX4_dayOnBench 1 = .ok (.istore_n 3, 1) := by decide +kernel
theorem dX4_dayOnBench_2 : decode cX4_dayOnBench 2 = .ok (.iconst 0, 1) := by decide +kernel
theorem dX4_dayOnBench_3 : decode cX4_dayOnBench 3 = .ok (.istore 4, 2) := by decide +kernel
theorem dX4_dayOnBench_5 : decode cX4_dayOnBench 5 = .ok (.iload 4, 2) := by decide +kernel
theorem dX4_dayOnBench_7 : decode cX4_dayOnBench 7 = .ok (.aload_n 0, 1) := by decide +kernel
theorem dX4_dayOnBench_8 : decode cX4_dayOnBench 8 = .ok (.getfield 66, 3) := by decide +kernel
theorem dX4_dayOnBench_11 : decode cX4_dayOnBench 11 = .ok (.if_icmp .ge 76, 3) := by decide +kernel
theorem dX4_dayOnBench_14 : decode cX4_dayOnBench 14 = .ok (.aload_n 0, 1) := by decide +kernel
theorem dX4_dayOnBench_15 : decode cX4_dayOnBench 15 = .ok (.getfield 31, 3) := by decide +kernel
theorem dX4_dayOnBench_18 : decode cX4_dayOnBench 18 = .ok (.iload 4, 2) := by decide +kernel
theorem dX4_dayOnBench_20 : decode cX4_dayOnBench 20 = .ok (.iaload, 1) := by decide +kernel
theorem dX4_dayOnBench_21 : decode cX4_dayOnBench 21 = .ok (.aload_n 0, 1) := by decide +kernel
theorem dX4_dayOnBench_22 : decode cX4_dayOnBench 22 = .ok (.getfield 31, 3) := by decide +kernel
theorem dX4_dayOnBench_25 : decode cX4_dayOnBench 25 = .ok (.iload_n 1, 1) := by decide +kernel
theorem dX4_dayOnBench_26 : decode cX4_dayOnBench 26 = .ok (.iaload, 1) := by decide +kernel
theorem dX4_dayOnBench_27 : decode cX4_dayOnBench 27 = .ok (.if_icmp .lt 25, 3) := by decide +kernel
theorem dX4_dayOnBench_30 : decode cX4_dayOnBench 30 = .ok (.aload_n 0, 1) := by decide +kernel
theorem dX4_dayOnBench_31 : decode cX4_dayOnBench 31 = .ok (.getfield 31, 3) := by decide +kernel
theorem dX4_dayOnBench_34 : decode cX4_dayOnBench 34 = .ok (.iload 4, 2) := by decide +kernel
theorem dX4_dayOnBench_36 : decode cX4_dayOnBench 36 = .ok (.iaload, 1) := by decide +kernel
theorem dX4_dayOnBench_37 : decode cX4_dayOnBench 37 = .ok (.aload_n 0, 1) := by decide +kernel
theorem dX4_dayOnBench_38 : decode cX4_dayOnBench 38 = .ok (.getfield 31, 3) := by decide +kernel
theorem dX4_dayOnBench_41 : decode cX4_dayOnBench 41 = .ok (.iload_n 1, 1) := by decide +kernel
theorem dX4_dayOnBench_42 : decode cX4_dayOnBench 42 = .ok (.iaload, 1) := by decide +kernel
theorem dX4_dayOnBench_43 : decode cX4_dayOnBench 43 = .ok (.if_icmp .ne 13, 3) := by decide +kernel
theorem dX4_dayOnBench_46 : decode cX4_dayOnBench 46 = .ok (.iload 4, 2) := by decide +kernel
theorem dX4_dayOnBench_48 : decode cX4_dayOnBench 48 = .ok (.iload_n 1, 1) := by decide +kernel
theorem dX4_dayOnBench_49 : decode cX4_dayOnBench 49 = .ok (.if_icmp .ge 7, 3) := by decide +kernel
theorem dX4_dayOnBench_52 : decode cX4_dayOnBench 52 = .ok (.iconst 1, 1) := by decide +kernel
theorem dX4_dayOnBench_53 : decode cX4_dayOnBench 53 = .ok (.goto 4, 3) := by decide +kernel
theorem dX4_dayOnBench_56 : decode cX4_dayOnBench 56 = .ok (.iconst 0, 1) := by decide +kernel
theorem dX4_dayOnBench_57 : decode cX4_dayOnBench 57 = .ok (.istore 5, 2) := by decide +kernel
theorem dX4_dayOnBench_59 : decode cX4_dayOnBench 59 = .ok (.iload_n 3, 1) := by decide +kernel
theorem dX4_dayOnBench_60 : decode cX4_dayOnBench 60 = .ok (.aload_n 0, 1) := by decide +kernel
theorem dX4_dayOnBench_61 : decode cX4_dayOnBench 61 = .ok (.iload 4, 2) := by decide +kernel
theorem dX4_dayOnBench_63 : decode cX4_dayOnBench 63 = .ok (.invokevirtual 83, 3) := by decide +kernel
theorem dX4_dayOnBench_66 : decode cX4_dayOnBench 66 = .ok (.ifCond .eq 12, 3) := by decide +kernel
theorem dX4_dayOnBench_69 : decode cX4_dayOnBench 69 = .ok (.iload 5, 2) := by decide +kernel
theorem dX4_dayOnBench_71 : decode cX4_dayOnBench 71 = .ok (.ifCond .eq 7, 3) := by decide +kernel
theorem dX4_dayOnBench_74 : decode cX4_dayOnBench 74 = .ok (.iconst 1, 1) := by decide +kernel
theorem dX4_dayOnBench_75 : decode cX4_dayOnBench 75 = .ok (.goto 4, 3) := by decide +kernel
theorem dX4_dayOnBench_78 : decode cX4_dayOnBench 78 = .ok (.iconst 0, 1) := by decide +kernel
theorem dX4_dayOnBench_79 : decode cX4_dayOnBench 79 = .ok (.iadd, 1) := by decide +kernel
theorem dX4_dayOnBench_80 : decode cX4_dayOnBench 80 = .ok (.istore_n 3, 1) := by decide +kernel
theorem dX4_dayOnBench_81 : decode cX4_dayOnBench 81 = .ok (.iinc 4 1, 3) := by decide +kernel
theorem dX4_dayOnBench_84 : decode cX4_dayOnBench 84 = .ok (.goto (-79), 3) := by decide +kernel
theorem dX4_dayOnBench_87 : decode cX4_dayOnBench 87 = .ok (.aload_n 0, 1) := by decide +kernel
theorem dX4_dayOnBench_88 : decode cX4_dayOnBench 88 = .ok (.getfield 80, 3) := by decide +kernel
theorem dX4_dayOnBench_91 : decode cX4_dayOnBench 91 = .ok (.iload_n 3, 1) := by decide +kernel
theorem dX4_dayOnBench_92 : decode cX4_dayOnBench 92 = .ok (.iload_n 2, 1) := by decide +kernel
theorem dX4_dayOnBench_93 : decode cX4_dayOnBench 93 = .ok (.idiv, 1) := by decide +kernel
theorem dX4_dayOnBench_94 : decode cX4_dayOnBench 94 = .ok (.iadd, 1) := by decide +kernel
theorem dX4_dayOnBench_95 : decode cX4_dayOnBench 95 = .ok (.ireturn, 1) := by decide +kernel
theorem dX4_isEach_0 : decode cX4_isEach 0 = .ok (.iload_n 0, 1) := by decide +kernel
theorem dX4_isEach_1 : decode cX4_isEach 1 = .ok (.iconst 1, 1) := by decide +kernel
theorem dX4_isEach_2 : decode cX4_isEach 2 = .ok (.if_icmp .lt 13, 3) := by decide +kernel
theorem dX4_isEach_5 : decode cX4_isEach 5 = .ok (.iload_n 0, 1) := by decide +kernel
theorem dX4_isEach_6 : decode cX4_isEach 6 = .ok (.bipush 12, 2) := by decide +kernel
theorem dX4_isEach_8 : decode cX4_isEach 8 = .ok (.if_icmp .gt 7, 3) := by decide +kernel
theorem dX4_isEach_11 : decode cX4_isEach 11 = .ok (.iconst 1, 1) := by decide +kernel
theorem dX4_isEach_12 : decode cX4_isEach 12 = .ok (.goto 4, 3) := by decide +kernel
theorem dX4_isEach_15 : decode cX4_isEach 15 = .ok (.iconst 0, 1) := by decide +kernel
theorem dX4_isEach_16 : decode cX4_isEach 16 = .ok (.ireturn, 1) := by decide +kernel
theorem dX4_benchDay_0 : decode cX4_benchDay 0 = .ok (.aload_n 0, 1) := by decide +kernel
theorem dX4_benchDay_1 : decode cX4_benchDay 1 = .ok (.iload_n 1, 1) := by decide +kernel
theorem dX4_benchDay_2 : decode cX4_benchDay 2 = .ok (.invokevirtual 69, 3) := by decide +kernel
theorem dX4_benchDay_5 : decode cX4_benchDay 5 = .ok (.istore_n 3, 1) := by decide +kernel
theorem dX4_benchDay_6 : decode cX4_benchDay 6 = .ok (.aload_n 0, 1) := by decide +kernel
theorem dX4_benchDay_7 : decode cX4_benchDay 7 = .ok (.iload_n 3, 1) := by decide +kernel
theorem dX4_benchDay_8 : decode cX4_benchDay 8 = .ok (.ifCond .ne 7, 3) := by decide +kernel
theorem dX4_benchDay_11 : decode cX4_benchDay 11 = .ok (.iconst 1, 1) := by decide +kernel
theorem dX4_benchDay_12 : decode cX4_benchDay 12 = .ok (.goto 15, 3) := by decide +kernel
theorem dX4_benchDay_15 : decode cX4_benchDay 15 = .ok (.iload_n 2, 1) := by decide +kernel
theorem dX4_benchDay_16 : decode cX4_benchDay 16 = .ok (.invokestatic 145, 3) := by decide +kernel
theorem dX4_benchDay_19 : decode cX4_benchDay 19 = .ok (.ifCond .eq 7, 3) := by decide +kernel
theorem dX4_benchDay_22 : decode cX4_benchDay 22 = .ok (.iconst 0, 1) := by decide +kernel
theorem dX4_benchDay_23 : decode cX4_benchDay 23 = .ok (.goto 4, 3) := by decide +kernel
theorem dX4_benchDay_26 : decode cX4_benchDay 26 = .ok (.iconst 2, 1) := by decide +kernel
theorem dX4_benchDay_27 : decode cX4_benchDay 27 = .ok (.invokevirtual 73, 3) := by decide +kernel
theorem dX4_benchDay_30 : decode cX4_benchDay 30 = .ok (.ifCond .ne 5, 3) := by decide +kernel
theorem dX4_benchDay_33 : decode cX4_benchDay 33 = .ok (.iconst 0, 1) := by decide +kernel
theorem dX4_benchDay_34 : decode cX4_benchDay 34 = .ok (.ireturn, 1) := by decide +kernel
theorem dX4_benchDay_35 : decode cX4_benchDay 35 = .ok (.aload_n 0, 1) := by decide +kernel
theorem dX4_benchDay_36 : decode cX4_benchDay 36 = .ok (.iload_n 1, 1) := by decide +kernel
theorem dX4_benchDay_37 : decode cX4_benchDay 37 = .ok (.invokevirtual 83, 3) := by decide +kernel
theorem dX4_benchDay_40 : decode cX4_benchDay 40 = .ok (.ifCond .eq 12, 3) := by decide +kernel
theorem dX4_benchDay_43 : decode cX4_benchDay 43 = .ok (.aload_n 0, 1) := by decide +kernel
theorem dX4_benchDay_44 : decode cX4_benchDay 44 = .ok (.iload_n 1, 1) := by decide +kernel
theorem dX4_benchDay_45 : decode cX4_benchDay 45 = .ok (.iload_n 2, 1) := by decide +kernel
theorem dX4_benchDay_46 : decode cX4_benchDay 46 = .ok (.invokevirtual 148, 3) := by decide +kernel
theorem dX4_benchDay_49 : decode cX4_benchDay 49 = .ok (.goto 4, 3) := by decide +kernel
theorem dX4_benchDay_52 : decode cX4_benchDay 52 = .ok (.iconst (-1), 1) := by decide +kernel
theorem dX4_benchDay_53 : decode cX4_benchDay 53 = .ok (.ireturn, 1) := by decide +kernel
theorem dX4_late_0 : decode cX4_late 0 = .ok (.aload_n 0, 1) := by decide +kernel
theorem dX4_late_1 : decode cX4_late 1 = .ok (.iload_n 1, 1) := by decide +kernel
theorem dX4_late_2 : decode cX4_late 2 = .ok (.invokestatic 145, 3) := by decide +kernel
theorem dX4_late_5 : decode cX4_late 5 = .ok (.ifCond .eq 7, 3) := by decide +kernel
theorem dX4_late_8 : decode cX4_late 8 = .ok (.iconst 0, 1) := by decide +kernel
theorem dX4_late_9 : decode cX4_late 9 = .ok (.goto 4, 3) := by decide +kernel
theorem dX4_late_12 : decode cX4_late 12 = .ok (.iconst 1, 1) := by decide +kernel
theorem dX4_late_13 : decode cX4_late 13 = .ok (.invokevirtual 73, 3) := by decide +kernel
theorem dX4_late_16 : decode cX4_late 16 = .ok (.ifCond .ne 5, 3) := by decide +kernel
theorem dX4_late_19 : decode cX4_late 19 = .ok (.iconst 0, 1) := by decide +kernel
theorem dX4_late_20 : decode cX4_late 20 = .ok (.ireturn, 1) := by decide +kernel
theorem dX4_late_21 : decode cX4_late 21 = .ok (.iconst 0, 1) := by decide +kernel
theorem dX4_late_22 : decode cX4_late 22 = .ok (.istore_n 2, 1) := by decide +kernel
theorem dX4_late_23 : decode cX4_late 23 = .ok (.iconst 0, 1) := by decide +kernel
theorem dX4_late_24 : decode cX4_late 24 = .ok (.istore_n 3, 1) := by decide +kernel
theorem dX4_late_25 : decode cX4_late 25 = .ok (.iload_n 3, 1) := by decide +kernel
theorem dX4_late_26 : decode cX4_late 26 = .ok (.aload_n 0, 1) := by decide +kernel
theorem dX4_late_27 : decode cX4_late 27 = .ok (.getfield 66, 3) := by decide +kernel
theorem dX4_late_30 : decode cX4_late 30 = .ok (.if_icmp .ge 40, 3) := by decide +kernel
theorem dX4_late_33 : decode cX4_late 33 = .ok (.iload_n 2, 1) := by decide +kernel
theorem dX4_late_34 : decode cX4_late 34 = .ok (.aload_n 0, 1) := by decide +kernel
theorem dX4_late_35 : decode cX4_late 35 = .ok (.iload_n 3, 1) := by decide +kernel
theorem dX4_late_36 : decode cX4_late 36 = .ok (.invokevirtual 83, 3) := by decide +kernel
theorem dX4_late_39 : decode cX4_late 39 = .ok (.ifCond .eq 22, 3) := by decide +kernel
theorem dX4_late_42 : decode cX4_late 42 = .ok (.aload_n 0, 1) := by decide +kernel
theorem dX4_late_43 : decode cX4_late 43 = .ok (.iload_n 3, 1) := by decide +kernel
theorem dX4_late_44 : decode cX4_late 44 = .ok (.iload_n 1, 1) := by decide +kernel
theorem dX4_late_45 : decode cX4_late 45 = .ok (.invokevirtual 148, 3) := by decide +kernel
theorem dX4_late_48 : decode cX4_late 48 = .ok (.aload_n 0, 1) := by decide +kernel
theorem dX4_late_49 : decode cX4_late 49 = .ok (.getfield 31, 3) := by decide +kernel
theorem dX4_late_52 : decode cX4_late 52 = .ok (.iload_n 3, 1) := by decide +kernel
theorem dX4_late_53 : decode cX4_late 53 = .ok (.iaload, 1) := by decide +kernel
theorem dX4_late_54 : decode cX4_late 54 = .ok (.if_icmp .le 7, 3) := by decide +kernel
theorem dX4_late_57 : decode cX4_late 57 = .ok (.iconst 1, 1) := by decide +kernel
theorem dX4_late_58 : decode cX4_late 58 = .ok (.goto 4, 3) := by decide +kernel
theorem dX4_late_61 : decode cX4_late 61 = .ok (.iconst 0, 1) := by decide +kernel
theorem dX4_late_62 : decode cX4_late 62 = .ok (.iadd, 1) := by decide +kernel
theorem dX4_late_63 : decode cX4_late 63 = .ok (.istore_n 2, 1) := by decide +kernel
theorem dX4_late_64 : decode cX4_late 64 = .ok (.iinc 3 1, 3) := by decide +kernel
theorem dX4_late_67 : decode cX4_late 67 = .ok (.goto (-42), 3) := by decide +kernel
theorem dX4_late_70 : decode cX4_late 70 = .ok (.iload_n 2, 1) := by decide +kernel
theorem dX4_late_71 : decode cX4_late 71 = .ok (.ireturn, 1) := by decide +kernel
theorem dJ9_floorDiv_f86c9_0 : decode cJ9_floorDiv_f86c9 0 = .ok (.lload_n 0, 1) := by decide +kernel
theorem dJ9_floorDiv_f86c9_1 : decode cJ9_floorDiv_f86c9 1 = .ok (.lload_n 2, 1) := by decide +kernel
theorem dJ9_floorDiv_f86c9_2 : decode cJ9_floorDiv_f86c9 2 = .ok (.ldiv, 1) := by decide +kernel
theorem dJ9_floorDiv_f86c9_3 : decode cJ9_floorDiv_f86c9 3 = .ok (.lstore 4, 2) := by decide +kernel
theorem dJ9_floorDiv_f86c9_5 : decode cJ9_floorDiv_f86c9 5 = .ok (.lload_n 0, 1) := by decide +kernel
theorem dJ9_floorDiv_f86c9_6 : decode cJ9_floorDiv_f86c9 6 = .ok (.lload_n 2, 1) := by decide +kernel
theorem dJ9_floorDiv_f86c9_7 : decode cJ9_floorDiv_f86c9 7 = .ok (.lxor, 1) := by decide +kernel
theorem dJ9_floorDiv_f86c9_8 : decode cJ9_floorDiv_f86c9 8 = .ok (.lconst 0, 1) := by decide +kernel
theorem dJ9_floorDiv_f86c9_9 : decode cJ9_floorDiv_f86c9 9 = .ok (.lcmp, 1) := by decide +kernel
theorem dJ9_floorDiv_f86c9_10 : decode cJ9_floorDiv_f86c9 10 = .ok (.ifCond .ge 17, 3) := by decide +kernel
theorem dJ9_floorDiv_f86c9_13 : decode cJ9_floorDiv_f86c9 13 = .ok (.lload 4, 2) := by decide +kernel
theorem dJ9_floorDiv_f86c9_15 : decode cJ9_floorDiv_f86c9 15 = .ok (.lload_n 2, 1) := by decide +kernel
theorem dJ9_floorDiv_f86c9_16 : decode cJ9_floorDiv_f86c9 16 = .ok (.lmul, 1) := by decide +kernel
theorem dJ9_floorDiv_f86c9_17 : decode cJ9_floorDiv_f86c9 17 = .ok (.lload_n 0, 1) := by decide +kernel
theorem dJ9_floorDiv_f86c9_18 : decode cJ9_floorDiv_f86c9 18 = .ok (.lcmp, 1) := by decide +kernel
theorem dJ9_floorDiv_f86c9_19 : decode cJ9_floorDiv_f86c9 19 = .ok (.ifCond .eq 8, 3) := by decide +kernel
theorem dJ9_floorDiv_f86c9_22 : decode cJ9_floorDiv_f86c9 22 = .ok (.lload 4, 2) := by decide +kernel
theorem dJ9_floorDiv_f86c9_24 : decode cJ9_floorDiv_f86c9 24 = .ok (.lconst 1, 1) := by decide +kernel
theorem dJ9_floorDiv_f86c9_25 : decode cJ9_floorDiv_f86c9 25 = .ok (.lsub, 1) := by decide +kernel
theorem dJ9_floorDiv_f86c9_26 : decode cJ9_floorDiv_f86c9 26 = .ok (.lreturn, 1) := by decide +kernel
theorem dJ9_floorDiv_f86c9_27 : decode cJ9_floorDiv_f86c9 27 = .ok (.lload 4, 2) := by decide +kernel
theorem dJ9_floorDiv_f86c9_29 : decode cJ9_floorDiv_f86c9 29 = .ok (.lreturn, 1) := by decide +kernel
theorem dJ9_abs_0f7a4_0 : decode cJ9_abs_0f7a4 0 = .ok (.iload_n 0, 1) := by decide +kernel
theorem dJ9_abs_0f7a4_1 : decode cJ9_abs_0f7a4 1 = .ok (.ifCond .ge 8, 3) := by decide +kernel
theorem dJ9_abs_0f7a4_4 : decode cJ9_abs_0f7a4 4 = .ok (.iload_n 0, 1) := by decide +kernel
theorem dJ9_abs_0f7a4_5 : decode cJ9_abs_0f7a4 5 = .ok (.ineg, 1) := by decide +kernel
theorem dJ9_abs_0f7a4_6 : decode cJ9_abs_0f7a4 6 = .ok (.goto 4, 3) := by decide +kernel
theorem dJ9_abs_0f7a4_9 : decode cJ9_abs_0f7a4 9 = .ok (.iload_n 0, 1) := by decide +kernel
theorem dJ9_abs_0f7a4_10 : decode cJ9_abs_0f7a4 10 = .ok (.ireturn, 1) := by decide +kernel
theorem dJ9_abs_067f4_0 : decode cJ9_abs_067f4 0 = .ok (.lload_n 0, 1) := by decide +kernel
theorem dJ9_abs_067f4_1 : decode cJ9_abs_067f4 1 = .ok (.lconst 0, 1) := by decide +kernel
theorem dJ9_abs_067f4_2 : decode cJ9_abs_067f4 2 = .ok (.lcmp, 1) := by decide +kernel
theorem dJ9_abs_067f4_3 : decode cJ9_abs_067f4 3 = .ok (.ifCond .ge 8, 3) := by decide +kernel
theorem dJ9_abs_067f4_6 : decode cJ9_abs_067f4 6 = .ok (.lload_n 0, 1) := by decide +kernel
theorem dJ9_abs_067f4_7 : decode cJ9_abs_067f4 7 = .ok (.lneg, 1) := by decide +kernel
theorem dJ9_abs_067f4_8 : decode cJ9_abs_067f4 8 = .ok (.goto 4, 3) := by decide +kernel
theorem dJ9_abs_067f4_11 : decode cJ9_abs_067f4 11 = .ok (.lload_n 0, 1) := by decide +kernel
theorem dJ9_abs_067f4_12 : decode cJ9_abs_067f4 12 = .ok (.lreturn, 1) := by decide +kernel
theorem dJ9_max_7cf53_0 : decode cJ9_max_7cf53 0 = .ok (.iload_n 0, 1) := by decide +kernel
theorem dJ9_max_7cf53_1 : decode cJ9_max_7cf53 1 = .ok (.iload_n 1, 1) := by decide +kernel
theorem dJ9_max_7cf53_2 : decode cJ9_max_7cf53 2 = .ok (.if_icmp .lt 7, 3) := by decide +kernel
theorem dJ9_max_7cf53_5 : decode cJ9_max_7cf53 5 = .ok (.iload_n 0, 1) := by decide +kernel
theorem dJ9_max_7cf53_6 : decode cJ9_max_7cf53 6 = .ok (.goto 4, 3) := by decide +kernel
theorem dJ9_max_7cf53_9 : decode cJ9_max_7cf53 9 = .ok (.iload_n 1, 1) := by decide +kernel
theorem dJ9_max_7cf53_10 : decode cJ9_max_7cf53 10 = .ok (.ireturn, 1) := by decide +kernel
theorem dJ9_min_7cf53_0 : decode cJ9_min_7cf53 0 = .ok (.iload_n 0, 1) := by decide +kernel
theorem dJ9_min_7cf53_1 : decode cJ9_min_7cf53 1 = .ok (.iload_n 1, 1) := by decide +kernel
theorem dJ9_min_7cf53_2 : decode cJ9_min_7cf53 2 = .ok (.if_icmp .gt 7, 3) := by decide +kernel
theorem dJ9_min_7cf53_5 : decode cJ9_min_7cf53 5 = .ok (.iload_n 0, 1) := by decide +kernel
theorem dJ9_min_7cf53_6 : decode cJ9_min_7cf53 6 = .ok (.goto 4, 3) := by decide +kernel
theorem dJ9_min_7cf53_9 : decode cJ9_min_7cf53 9 = .ok (.iload_n 1, 1) := by decide +kernel
theorem dJ9_min_7cf53_10 : decode cJ9_min_7cf53 10 = .ok (.ireturn, 1) := by decide +kernel
theorem dL_tell_0 : decode cL_tell 0 = .ok (.aload 5, 2) := by decide +kernel
theorem dL_tell_2 : decode cL_tell 2 = .ok (.iconst 0, 1) := by decide +kernel
theorem dL_tell_3 : decode cL_tell 3 = .ok (.aload_n 0, 1) := by decide +kernel
theorem dL_tell_4 : decode cL_tell 4 = .ok (.iload_n 1, 1) := by decide +kernel
theorem dL_tell_5 : decode cL_tell 5 = .ok (.iload_n 2, 1) := by decide +kernel
theorem dL_tell_6 : decode cL_tell 6 = .ok (.iload_n 3, 1) := by decide +kernel
theorem dL_tell_7 : decode cL_tell 7 = .ok (.iload 4, 2) := by decide +kernel
theorem dL_tell_9 : decode cL_tell 9 = .ok (.invokevirtual 7, 3) := by decide +kernel
theorem dL_tell_12 : decode cL_tell 12 = .ok (.i2l, 1) := by decide +kernel
theorem dL_tell_13 : decode cL_tell 13 = .ok (.lastore, 1) := by decide +kernel
theorem dL_tell_14 : decode cL_tell 14 = .ok (.goto 15, 3) := by decide +kernel
theorem dL_tell_17 : decode cL_tell 17 = .ok (.astore 6, 2) := by decide +kernel
theorem dL_tell_19 : decode cL_tell 19 = .ok (.iconst 1, 1) := by decide +kernel
theorem dL_tell_20 : decode cL_tell 20 = .ok (.ireturn, 1) := by decide +kernel
theorem dL_tell_21 : decode cL_tell 21 = .ok (.astore 6, 2) := by decide +kernel
theorem dL_tell_23 : decode cL_tell 23 = .ok (.iconst 2, 1) := by decide +kernel
theorem dL_tell_24 : decode cL_tell 24 = .ok (.ireturn, 1) := by decide +kernel
theorem dL_tell_25 : decode cL_tell 25 = .ok (.astore 6, 2) := by decide +kernel
theorem dL_tell_27 : decode cL_tell 27 = .ok (.iconst 3, 1) := by decide +kernel
theorem dL_tell_28 : decode cL_tell 28 = .ok (.ireturn, 1) := by decide +kernel
theorem dL_tell_29 : decode cL_tell 29 = .ok (.iconst 0, 1) := by decide +kernel
theorem dL_tell_30 : decode cL_tell 30 = .ok (.ireturn, 1) := by decide +kernel
theorem dL_refer_0 : decode cL_refer 0 = .ok (.aload_n 3, 1) := by decide +kernel
theorem dL_refer_1 : decode cL_refer 1 = .ok (.iconst 0, 1) := by decide +kernel
theorem dL_refer_2 : decode cL_refer 2 = .ok (.aload_n 0, 1) := by decide +kernel
theorem dL_refer_3 : decode cL_refer 3 = .ok (.iload_n 1, 1) := by decide +kernel
theorem dL_refer_4 : decode cL_refer 4 = .ok (.iload_n 2, 1) := by decide +kernel
theorem dL_refer_5 : decode cL_refer 5 = .ok (.invokevirtual 19, 3) := by decide +kernel
theorem dL_refer_8 : decode cL_refer 8 = .ok (.i2l, 1) := by decide +kernel
theorem dL_refer_9 : decode cL_refer 9 = .ok (.lastore, 1) := by decide +kernel
theorem dL_refer_10 : decode cL_refer 10 = .ok (.goto 11, 3) := by decide +kernel
theorem dL_refer_13 : decode cL_refer 13 = .ok (.astore 4, 2) := by decide +kernel
theorem dL_refer_15 : decode cL_refer 15 = .ok (.iconst 1, 1) := by decide +kernel
theorem dL_refer_16 : decode cL_refer 16 = .ok (.ireturn, 1) := by decide +kernel
theorem dL_refer_17 : decode cL_refer 17 = .ok (.astore 4, 2) := by decide +kernel
theorem dL_refer_19 : decode cL_refer 19 = .ok (.iconst 2, 1) := by decide +kernel
theorem dL_refer_20 : decode cL_refer 20 = .ok (.ireturn, 1) := by decide +kernel
theorem dL_refer_21 : decode cL_refer 21 = .ok (.iconst 0, 1) := by decide +kernel
theorem dL_refer_22 : decode cL_refer 22 = .ok (.ireturn, 1) := by decide +kernel
theorem dL_pass_0 : decode cL_pass 0 = .ok (.aload_n 2, 1) := by decide +kernel
theorem dL_pass_1 : decode cL_pass 1 = .ok (.iconst 0, 1) := by decide +kernel
theorem dL_pass_2 : decode cL_pass 2 = .ok (.aload_n 0, 1) := by decide +kernel
theorem dL_pass_3 : decode cL_pass 3 = .ok (.iload_n 1, 1) := by decide +kernel
theorem dL_pass_4 : decode cL_pass 4 = .ok (.invokevirtual 23, 3) := by decide +kernel
theorem dL_pass_7 : decode cL_pass 7 = .ok (.i2l, 1) := by decide +kernel
theorem dL_pass_8 : decode cL_pass 8 = .ok (.lastore, 1) := by decide +kernel
theorem dL_pass_9 : decode cL_pass 9 = .ok (.goto 6, 3) := by decide +kernel
theorem dL_pass_12 : decode cL_pass 12 = .ok (.astore_n 3, 1) := by decide +kernel
theorem dL_pass_13 : decode cL_pass 13 = .ok (.iconst 1, 1) := by decide +kernel
theorem dL_pass_14 : decode cL_pass 14 = .ok (.ireturn, 1) := by decide +kernel
theorem dL_pass_15 : decode cL_pass 15 = .ok (.iconst 0, 1) := by decide +kernel
theorem dL_pass_16 : decode cL_pass 16 = .ok (.ireturn, 1) := by decide +kernel
theorem dL_calibrate_0 : decode cL_calibrate 0 = .ok (.aload 4, 2) := by decide +kernel
theorem dL_calibrate_2 : decode cL_calibrate 2 = .ok (.iconst 0, 1) := by decide +kernel
theorem dL_calibrate_3 : decode cL_calibrate 3 = .ok (.aload_n 0, 1) := by decide +kernel
theorem dL_calibrate_4 : decode cL_calibrate 4 = .ok (.iload_n 1, 1) := by decide +kernel
theorem dL_calibrate_5 : decode cL_calibrate 5 = .ok (.iload_n 2, 1) := by decide +kernel
theorem dL_calibrate_6 : decode cL_calibrate 6 = .ok (.iload_n 3, 1) := by decide +kernel
theorem dL_calibrate_7 : decode cL_calibrate 7 = .ok (.invokevirtual 27, 3) := by decide +kernel
theorem dL_calibrate_10 : decode cL_calibrate 10 = .ok (.i2l, 1) := by decide +kernel
theorem dL_calibrate_11 : decode cL_calibrate 11 = .ok (.lastore, 1) := by decide +kernel
theorem dL_calibrate_12 : decode cL_calibrate 12 = .ok (.goto 15, 3) := by decide +kernel
theorem dL_calibrate_15 : decode cL_calibrate 15 = .ok (.astore 5, 2) := by decide +kernel
theorem dL_calibrate_17 : decode cL_calibrate 17 = .ok (.iconst 1, 1) := by decide +kernel
theorem dL_calibrate_18 : decode cL_calibrate 18 = .ok (.ireturn, 1) := by decide +kernel
theorem dL_calibrate_19 : decode cL_calibrate 19 = .ok (.astore 5, 2) := by decide +kernel
theorem dL_calibrate_21 : decode cL_calibrate 21 = .ok (.iconst 2, 1) := by decide +kernel
theorem dL_calibrate_22 : decode cL_calibrate 22 = .ok (.ireturn, 1) := by decide +kernel
theorem dL_calibrate_23 : decode cL_calibrate 23 = .ok (.astore 5, 2) := by decide +kernel
theorem dL_calibrate_25 : decode cL_calibrate 25 = .ok (.iconst 3, 1) := by decide +kernel
theorem dL_calibrate_26 : decode cL_calibrate 26 = .ok (.ireturn, 1) := by decide +kernel
theorem dL_calibrate_27 : decode cL_calibrate 27 = .ok (.iconst 0, 1) := by decide +kernel
theorem dL_calibrate_28 : decode cL_calibrate 28 = .ok (.ireturn, 1) := by decide +kernel
theorem dL_measure_0 : decode cL_measure 0 = .ok (.aload_n 2, 1) := by decide +kernel
theorem dL_measure_1 : decode cL_measure 1 = .ok (.iconst 0, 1) := by decide +kernel
theorem dL_measure_2 : decode cL_measure 2 = .ok (.aload_n 0, 1) := by decide +kernel
theorem dL_measure_3 : decode cL_measure 3 = .ok (.iload_n 1, 1) := by decide +kernel
theorem dL_measure_4 : decode cL_measure 4 = .ok (.invokevirtual 31, 3) := by decide +kernel
theorem dL_measure_7 : decode cL_measure 7 = .ok (.i2l, 1) := by decide +kernel
theorem dL_measure_8 : decode cL_measure 8 = .ok (.lastore, 1) := by decide +kernel
theorem dL_measure_9 : decode cL_measure 9 = .ok (.goto 9, 3) := by decide +kernel
theorem dL_measure_12 : decode cL_measure 12 = .ok (.astore_n 3, 1) := by decide +kernel
theorem dL_measure_13 : decode cL_measure 13 = .ok (.iconst 1, 1) := by decide +kernel
theorem dL_measure_14 : decode cL_measure 14 = .ok (.ireturn, 1) := by decide +kernel
theorem dL_measure_15 : decode cL_measure 15 = .ok (.astore_n 3, 1) := by decide +kernel
theorem dL_measure_16 : decode cL_measure 16 = .ok (.iconst 2, 1) := by decide +kernel
theorem dL_measure_17 : decode cL_measure 17 = .ok (.ireturn, 1) := by decide +kernel
theorem dL_measure_18 : decode cL_measure 18 = .ok (.iconst 0, 1) := by decide +kernel
theorem dL_measure_19 : decode cL_measure 19 = .ok (.ireturn, 1) := by decide +kernel
theorem dL_intervalOf_0 : decode cL_intervalOf 0 = .ok (.aload_n 2, 1) := by decide +kernel
theorem dL_intervalOf_1 : decode cL_intervalOf 1 = .ok (.iconst 0, 1) := by decide +kernel
theorem dL_intervalOf_2 : decode cL_intervalOf 2 = .ok (.aload_n 0, 1) := by decide +kernel
theorem dL_intervalOf_3 : decode cL_intervalOf 3 = .ok (.iload_n 1, 1) := by decide +kernel
theorem dL_intervalOf_4 : decode cL_intervalOf 4 = .ok (.invokevirtual 34, 3) := by decide +kernel
theorem dL_intervalOf_7 : decode cL_intervalOf 7 = .ok (.i2l, 1) := by decide +kernel
theorem dL_intervalOf_8 : decode cL_intervalOf 8 = .ok (.lastore, 1) := by decide +kernel
theorem dL_intervalOf_9 : decode cL_intervalOf 9 = .ok (.goto 6, 3) := by decide +kernel
theorem dL_intervalOf_12 : decode cL_intervalOf 12 = .ok (.astore_n 3, 1) := by decide +kernel
theorem dL_intervalOf_13 : decode cL_intervalOf 13 = .ok (.iconst 1, 1) := by decide +kernel
theorem dL_intervalOf_14 : decode cL_intervalOf 14 = .ok (.ireturn, 1) := by decide +kernel
theorem dL_intervalOf_15 : decode cL_intervalOf 15 = .ok (.iconst 0, 1) := by decide +kernel
theorem dL_intervalOf_16 : decode cL_intervalOf 16 = .ok (.ireturn, 1) := by decide +kernel
theorem dL_dueOf_0 : decode cL_dueOf 0 = .ok (.aload_n 2, 1) := by decide +kernel
theorem dL_dueOf_1 : decode cL_dueOf 1 = .ok (.iconst 0, 1) := by decide +kernel
theorem dL_dueOf_2 : decode cL_dueOf 2 = .ok (.aload_n 0, 1) := by decide +kernel
theorem dL_dueOf_3 : decode cL_dueOf 3 = .ok (.iload_n 1, 1) := by decide +kernel
theorem dL_dueOf_4 : decode cL_dueOf 4 = .ok (.invokevirtual 37, 3) := by decide +kernel
theorem dL_dueOf_7 : decode cL_dueOf 7 = .ok (.i2l, 1) := by decide +kernel
theorem dL_dueOf_8 : decode cL_dueOf 8 = .ok (.lastore, 1) := by decide +kernel
theorem dL_dueOf_9 : decode cL_dueOf 9 = .ok (.goto 6, 3) := by decide +kernel
theorem dL_dueOf_12 : decode cL_dueOf 12 = .ok (.astore_n 3, 1) := by decide +kernel
theorem dL_dueOf_13 : decode cL_dueOf 13 = .ok (.iconst 1, 1) := by decide +kernel
theorem dL_dueOf_14 : decode cL_dueOf 14 = .ok (.ireturn, 1) := by decide +kernel
theorem dL_dueOf_15 : decode cL_dueOf 15 = .ok (.iconst 0, 1) := by decide +kernel
theorem dL_dueOf_16 : decode cL_dueOf 16 = .ok (.ireturn, 1) := by decide +kernel
theorem dL_isSuspect_0 : decode cL_isSuspect 0 = .ok (.aload_n 2, 1) := by decide +kernel
theorem dL_isSuspect_1 : decode cL_isSuspect 1 = .ok (.iconst 0, 1) := by decide +kernel
theorem dL_isSuspect_2 : decode cL_isSuspect 2 = .ok (.aload_n 0, 1) := by decide +kernel
theorem dL_isSuspect_3 : decode cL_isSuspect 3 = .ok (.iload_n 1, 1) := by decide +kernel
theorem dL_isSuspect_4 : decode cL_isSuspect 4 = .ok (.invokevirtual 40, 3) := by decide +kernel
theorem dL_isSuspect_7 : decode cL_isSuspect 7 = .ok (.ifCond .eq 7, 3) := by decide +kernel
theorem dL_isSuspect_10 : decode cL_isSuspect 10 = .ok (.lconst 1, 1) := by decide +kernel
theorem dL_isSuspect_11 : decode cL_isSuspect 11 = .ok (.goto 4, 3) := by decide +kernel
theorem dL_isSuspect_14 : decode cL_isSuspect 14 = .ok (.lconst 0, 1) := by decide +kernel
theorem dL_isSuspect_15 : decode cL_isSuspect 15 = .ok (.lastore, 1) := by decide +kernel
theorem dL_isSuspect_16 : decode cL_isSuspect 16 = .ok (.goto 6, 3) := by decide +kernel
theorem dL_isSuspect_19 : decode cL_isSuspect 19 = .ok (.astore_n 3, 1) := by decide +kernel
theorem dL_isSuspect_20 : decode cL_isSuspect 20 = .ok (.iconst 1, 1) := by decide +kernel
theorem dL_isSuspect_21 : decode cL_isSuspect 21 = .ok (.ireturn, 1) := by decide +kernel
theorem dL_isSuspect_22 : decode cL_isSuspect 22 = .ok (.iconst 0, 1) := by decide +kernel
theorem dL_isSuspect_23 : decode cL_isSuspect 23 = .ok (.ireturn, 1) := by decide +kernel
theorem dL_distrusted_0 : decode cL_distrusted 0 = .ok (.aload_n 2, 1) := by decide +kernel
theorem dL_distrusted_1 : decode cL_distrusted 1 = .ok (.iconst 0, 1) := by decide +kernel
theorem dL_distrusted_2 : decode cL_distrusted 2 = .ok (.aload_n 0, 1) := by decide +kernel
theorem dL_distrusted_3 : decode cL_distrusted 3 = .ok (.iload_n 1, 1) := by decide +kernel
theorem dL_distrusted_4 : decode cL_distrusted 4 = .ok (.invokevirtual 44, 3) := by decide +kernel
theorem dL_distrusted_7 : decode cL_distrusted 7 = .ok (.i2l, 1) := by decide +kernel
theorem dL_distrusted_8 : decode cL_distrusted 8 = .ok (.lastore, 1) := by decide +kernel
theorem dL_distrusted_9 : decode cL_distrusted 9 = .ok (.goto 6, 3) := by decide +kernel
theorem dL_distrusted_12 : decode cL_distrusted 12 = .ok (.astore_n 3, 1) := by decide +kernel
theorem dL_distrusted_13 : decode cL_distrusted 13 = .ok (.iconst 1, 1) := by decide +kernel
theorem dL_distrusted_14 : decode cL_distrusted 14 = .ok (.ireturn, 1) := by decide +kernel
theorem dL_distrusted_15 : decode cL_distrusted 15 = .ok (.iconst 0, 1) := by decide +kernel
theorem dL_distrusted_16 : decode cL_distrusted 16 = .ok (.ireturn, 1) := by decide +kernel
theorem dL_chain_0 : decode cL_chain 0 = .ok (.aload_n 2, 1) := by decide +kernel
theorem dL_chain_1 : decode cL_chain 1 = .ok (.iconst 0, 1) := by decide +kernel
theorem dL_chain_2 : decode cL_chain 2 = .ok (.aload_n 0, 1) := by decide +kernel
theorem dL_chain_3 : decode cL_chain 3 = .ok (.iload_n 1, 1) := by decide +kernel
theorem dL_chain_4 : decode cL_chain 4 = .ok (.invokevirtual 47, 3) := by decide +kernel
theorem dL_chain_7 : decode cL_chain 7 = .ok (.i2l, 1) := by decide +kernel
theorem dL_chain_8 : decode cL_chain 8 = .ok (.lastore, 1) := by decide +kernel
theorem dL_chain_9 : decode cL_chain 9 = .ok (.goto 6, 3) := by decide +kernel
theorem dL_chain_12 : decode cL_chain 12 = .ok (.astore_n 3, 1) := by decide +kernel
theorem dL_chain_13 : decode cL_chain 13 = .ok (.iconst 1, 1) := by decide +kernel
theorem dL_chain_14 : decode cL_chain 14 = .ok (.ireturn, 1) := by decide +kernel
theorem dL_chain_15 : decode cL_chain 15 = .ok (.iconst 0, 1) := by decide +kernel
theorem dL_chain_16 : decode cL_chain 16 = .ok (.ireturn, 1) := by decide +kernel
theorem dL_failures_0 : decode cL_failures 0 = .ok (.aload_n 2, 1) := by decide +kernel
theorem dL_failures_1 : decode cL_failures 1 = .ok (.iconst 0, 1) := by decide +kernel
theorem dL_failures_2 : decode cL_failures 2 = .ok (.aload_n 0, 1) := by decide +kernel
theorem dL_failures_3 : decode cL_failures 3 = .ok (.iload_n 1, 1) := by decide +kernel
theorem dL_failures_4 : decode cL_failures 4 = .ok (.invokevirtual 50, 3) := by decide +kernel
theorem dL_failures_7 : decode cL_failures 7 = .ok (.i2l, 1) := by decide +kernel
theorem dL_failures_8 : decode cL_failures 8 = .ok (.lastore, 1) := by decide +kernel
theorem dL_failures_9 : decode cL_failures 9 = .ok (.goto 6, 3) := by decide +kernel
theorem dL_failures_12 : decode cL_failures 12 = .ok (.astore_n 3, 1) := by decide +kernel
theorem dL_failures_13 : decode cL_failures 13 = .ok (.iconst 1, 1) := by decide +kernel
theorem dL_failures_14 : decode cL_failures 14 = .ok (.ireturn, 1) := by decide +kernel
theorem dL_failures_15 : decode cL_failures 15 = .ok (.iconst 0, 1) := by decide +kernel
theorem dL_failures_16 : decode cL_failures 16 = .ok (.ireturn, 1) := by decide +kernel
theorem dL_slope_0 : decode cL_slope 0 = .ok (.aload_n 2, 1) := by decide +kernel
theorem dL_slope_1 : decode cL_slope 1 = .ok (.iconst 0, 1) := by decide +kernel
theorem dL_slope_2 : decode cL_slope 2 = .ok (.aload_n 0, 1) := by decide +kernel
theorem dL_slope_3 : decode cL_slope 3 = .ok (.iload_n 1, 1) := by decide +kernel
theorem dL_slope_4 : decode cL_slope 4 = .ok (.invokevirtual 53, 3) := by decide +kernel
theorem dL_slope_7 : decode cL_slope 7 = .ok (.dastore, 1) := by decide +kernel
theorem dL_slope_8 : decode cL_slope 8 = .ok (.goto 6, 3) := by decide +kernel
theorem dL_slope_11 : decode cL_slope 11 = .ok (.astore_n 3, 1) := by decide +kernel
theorem dL_slope_12 : decode cL_slope 12 = .ok (.iconst 1, 1) := by decide +kernel
theorem dL_slope_13 : decode cL_slope 13 = .ok (.ireturn, 1) := by decide +kernel
theorem dL_slope_14 : decode cL_slope 14 = .ok (.iconst 0, 1) := by decide +kernel
theorem dL_slope_15 : decode cL_slope 15 = .ok (.ireturn, 1) := by decide +kernel
theorem dL_expected_0 : decode cL_expected 0 = .ok (.aload_n 3, 1) := by decide +kernel
theorem dL_expected_1 : decode cL_expected 1 = .ok (.iconst 0, 1) := by decide +kernel
theorem dL_expected_2 : decode cL_expected 2 = .ok (.aload_n 0, 1) := by decide +kernel
theorem dL_expected_3 : decode cL_expected 3 = .ok (.iload_n 1, 1) := by decide +kernel
theorem dL_expected_4 : decode cL_expected 4 = .ok (.iload_n 2, 1) := by decide +kernel
theorem dL_expected_5 : decode cL_expected 5 = .ok (.invokevirtual 57, 3) := by decide +kernel
theorem dL_expected_8 : decode cL_expected 8 = .ok (.lastore, 1) := by decide +kernel
theorem dL_expected_9 : decode cL_expected 9 = .ok (.goto 15, 3) := by decide +kernel
theorem dL_expected_12 : decode cL_expected 12 = .ok (.astore 4, 2) := by decide +kernel
theorem dL_expected_14 : decode cL_expected 14 = .ok (.iconst 1, 1) := by decide +kernel
theorem dL_expected_15 : decode cL_expected 15 = .ok (.ireturn, 1) := by decide +kernel
theorem dL_expected_16 : decode cL_expected 16 = .ok (.astore 4, 2) := by decide +kernel
theorem dL_expected_18 : decode cL_expected 18 = .ok (.iconst 2, 1) := by decide +kernel
theorem dL_expected_19 : decode cL_expected 19 = .ok (.ireturn, 1) := by decide +kernel
theorem dL_expected_20 : decode cL_expected 20 = .ok (.astore 4, 2) := by decide +kernel
theorem dL_expected_22 : decode cL_expected 22 = .ok (.iconst 3, 1) := by decide +kernel
theorem dL_expected_23 : decode cL_expected 23 = .ok (.ireturn, 1) := by decide +kernel
theorem dL_expected_24 : decode cL_expected 24 = .ok (.iconst 0, 1) := by decide +kernel
theorem dL_expected_25 : decode cL_expected 25 = .ok (.ireturn, 1) := by decide +kernel
theorem dL_driftsOut_0 : decode cL_driftsOut 0 = .ok (.aload_n 2, 1) := by decide +kernel
theorem dL_driftsOut_1 : decode cL_driftsOut 1 = .ok (.iconst 0, 1) := by decide +kernel
theorem dL_driftsOut_2 : decode cL_driftsOut 2 = .ok (.aload_n 0, 1) := by decide +kernel
theorem dL_driftsOut_3 : decode cL_driftsOut 3 = .ok (.iload_n 1, 1) := by decide +kernel
theorem dL_driftsOut_4 : decode cL_driftsOut 4 = .ok (.invokevirtual 61, 3) := by decide +kernel
theorem dL_driftsOut_7 : decode cL_driftsOut 7 = .ok (.i2l, 1) := by decide +kernel
theorem dL_driftsOut_8 : decode cL_driftsOut 8 = .ok (.lastore, 1) := by decide +kernel
theorem dL_driftsOut_9 : decode cL_driftsOut 9 = .ok (.goto 6, 3) := by decide +kernel
theorem dL_driftsOut_12 : decode cL_driftsOut 12 = .ok (.astore_n 3, 1) := by decide +kernel
theorem dL_driftsOut_13 : decode cL_driftsOut 13 = .ok (.iconst 1, 1) := by decide +kernel
theorem dL_driftsOut_14 : decode cL_driftsOut 14 = .ok (.ireturn, 1) := by decide +kernel
theorem dL_driftsOut_15 : decode cL_driftsOut 15 = .ok (.iconst 0, 1) := by decide +kernel
theorem dL_driftsOut_16 : decode cL_driftsOut 16 = .ok (.ireturn, 1) := by decide +kernel
theorem dL_uncertainty_0 : decode cL_uncertainty 0 = .ok (.aload_n 2, 1) := by decide +kernel
theorem dL_uncertainty_1 : decode cL_uncertainty 1 = .ok (.iconst 0, 1) := by decide +kernel
theorem dL_uncertainty_2 : decode cL_uncertainty 2 = .ok (.aload_n 0, 1) := by decide +kernel
theorem dL_uncertainty_3 : decode cL_uncertainty 3 = .ok (.iload_n 1, 1) := by decide +kernel
theorem dL_uncertainty_4 : decode cL_uncertainty 4 = .ok (.invokevirtual 64, 3) := by decide +kernel
theorem dL_uncertainty_7 : decode cL_uncertainty 7 = .ok (.i2l, 1) := by decide +kernel
theorem dL_uncertainty_8 : decode cL_uncertainty 8 = .ok (.lastore, 1) := by decide +kernel
theorem dL_uncertainty_9 : decode cL_uncertainty 9 = .ok (.goto 6, 3) := by decide +kernel
theorem dL_uncertainty_12 : decode cL_uncertainty 12 = .ok (.astore_n 3, 1) := by decide +kernel
theorem dL_uncertainty_13 : decode cL_uncertainty 13 = .ok (.iconst 1, 1) := by decide +kernel
theorem dL_uncertainty_14 : decode cL_uncertainty 14 = .ok (.ireturn, 1) := by decide +kernel
theorem dL_uncertainty_15 : decode cL_uncertainty 15 = .ok (.iconst 0, 1) := by decide +kernel
theorem dL_uncertainty_16 : decode cL_uncertainty 16 = .ok (.ireturn, 1) := by decide +kernel
theorem dL_limit_0 : decode cL_limit 0 = .ok (.aload_n 2, 1) := by decide +kernel
theorem dL_limit_1 : decode cL_limit 1 = .ok (.iconst 0, 1) := by decide +kernel
theorem dL_limit_2 : decode cL_limit 2 = .ok (.aload_n 0, 1) := by decide +kernel
theorem dL_limit_3 : decode cL_limit 3 = .ok (.iload_n 1, 1) := by decide +kernel
theorem dL_limit_4 : decode cL_limit 4 = .ok (.invokevirtual 67, 3) := by decide +kernel
theorem dL_limit_7 : decode cL_limit 7 = .ok (.i2l, 1) := by decide +kernel
theorem dL_limit_8 : decode cL_limit 8 = .ok (.lastore, 1) := by decide +kernel
theorem dL_limit_9 : decode cL_limit 9 = .ok (.goto 6, 3) := by decide +kernel
theorem dL_limit_12 : decode cL_limit 12 = .ok (.astore_n 3, 1) := by decide +kernel
theorem dL_limit_13 : decode cL_limit 13 = .ok (.iconst 1, 1) := by decide +kernel
theorem dL_limit_14 : decode cL_limit 14 = .ok (.ireturn, 1) := by decide +kernel
theorem dL_limit_15 : decode cL_limit 15 = .ok (.iconst 0, 1) := by decide +kernel
theorem dL_limit_16 : decode cL_limit 16 = .ok (.ireturn, 1) := by decide +kernel
theorem dL_isCalledBack_0 : decode cL_isCalledBack 0 = .ok (.aload_n 2, 1) := by decide +kernel
theorem dL_isCalledBack_1 : decode cL_isCalledBack 1 = .ok (.iconst 0, 1) := by decide +kernel
theorem dL_isCalledBack_2 : decode cL_isCalledBack 2 = .ok (.aload_n 0, 1) := by decide +kernel
theorem dL_isCalledBack_3 : decode cL_isCalledBack 3 = .ok (.iload_n 1, 1) := by decide +kernel
theorem dL_isCalledBack_4 : decode cL_isCalledBack 4 = .ok (.invokevirtual 70, 3) := by decide +kernel
theorem dL_isCalledBack_7 : decode cL_isCalledBack 7 = .ok (.ifCond .eq 7, 3) := by decide +kernel
theorem dL_isCalledBack_10 : decode cL_isCalledBack 10 = .ok (.lconst 1, 1) := by decide +kernel
theorem dL_isCalledBack_11 : decode cL_isCalledBack 11 = .ok (.goto 4, 3) := by decide +kernel
theorem dL_isCalledBack_14 : decode cL_isCalledBack 14 = .ok (.lconst 0, 1) := by decide +kernel
theorem dL_isCalledBack_15 : decode cL_isCalledBack 15 = .ok (.lastore, 1) := by decide +kernel
theorem dL_isCalledBack_16 : decode cL_isCalledBack 16 = .ok (.goto 6, 3) := by decide +kernel
theorem dL_isCalledBack_19 : decode cL_isCalledBack 19 = .ok (.astore_n 3, 1) := by decide +kernel
theorem dL_isCalledBack_20 : decode cL_isCalledBack 20 = .ok (.iconst 1, 1) := by decide +kernel
theorem dL_isCalledBack_21 : decode cL_isCalledBack 21 = .ok (.ireturn, 1) := by decide +kernel
theorem dL_isCalledBack_22 : decode cL_isCalledBack 22 = .ok (.iconst 0, 1) := by decide +kernel
theorem dL_isCalledBack_23 : decode cL_isCalledBack 23 = .ok (.ireturn, 1) := by decide +kernel
theorem dL_atStake_0 : decode cL_atStake 0 = .ok (.aload_n 2, 1) := by decide +kernel
theorem dL_atStake_1 : decode cL_atStake 1 = .ok (.iconst 0, 1) := by decide +kernel
theorem dL_atStake_2 : decode cL_atStake 2 = .ok (.aload_n 0, 1) := by decide +kernel
theorem dL_atStake_3 : decode cL_atStake 3 = .ok (.iload_n 1, 1) := by decide +kernel
theorem dL_atStake_4 : decode cL_atStake 4 = .ok (.invokevirtual 73, 3) := by decide +kernel
theorem dL_atStake_7 : decode cL_atStake 7 = .ok (.i2l, 1) := by decide +kernel
theorem dL_atStake_8 : decode cL_atStake 8 = .ok (.lastore, 1) := by decide +kernel
theorem dL_atStake_9 : decode cL_atStake 9 = .ok (.goto 6, 3) := by decide +kernel
theorem dL_atStake_12 : decode cL_atStake 12 = .ok (.astore_n 3, 1) := by decide +kernel
theorem dL_atStake_13 : decode cL_atStake 13 = .ok (.iconst 1, 1) := by decide +kernel
theorem dL_atStake_14 : decode cL_atStake 14 = .ok (.ireturn, 1) := by decide +kernel
theorem dL_atStake_15 : decode cL_atStake 15 = .ok (.iconst 0, 1) := by decide +kernel
theorem dL_atStake_16 : decode cL_atStake 16 = .ok (.ireturn, 1) := by decide +kernel
theorem dL_benchDay_0 : decode cL_benchDay 0 = .ok (.aload_n 3, 1) := by decide +kernel
theorem dL_benchDay_1 : decode cL_benchDay 1 = .ok (.iconst 0, 1) := by decide +kernel
theorem dL_benchDay_2 : decode cL_benchDay 2 = .ok (.aload_n 0, 1) := by decide +kernel
theorem dL_benchDay_3 : decode cL_benchDay 3 = .ok (.iload_n 1, 1) := by decide +kernel
theorem dL_benchDay_4 : decode cL_benchDay 4 = .ok (.iload_n 2, 1) := by decide +kernel
theorem dL_benchDay_5 : decode cL_benchDay 5 = .ok (.invokevirtual 76, 3) := by decide +kernel
theorem dL_benchDay_8 : decode cL_benchDay 8 = .ok (.i2l, 1) := by decide +kernel
theorem dL_benchDay_9 : decode cL_benchDay 9 = .ok (.lastore, 1) := by decide +kernel
theorem dL_benchDay_10 : decode cL_benchDay 10 = .ok (.goto 11, 3) := by decide +kernel
theorem dL_benchDay_13 : decode cL_benchDay 13 = .ok (.astore 4, 2) := by decide +kernel
theorem dL_benchDay_15 : decode cL_benchDay 15 = .ok (.iconst 1, 1) := by decide +kernel
theorem dL_benchDay_16 : decode cL_benchDay 16 = .ok (.ireturn, 1) := by decide +kernel
theorem dL_benchDay_17 : decode cL_benchDay 17 = .ok (.astore 4, 2) := by decide +kernel
theorem dL_benchDay_19 : decode cL_benchDay 19 = .ok (.iconst 2, 1) := by decide +kernel
theorem dL_benchDay_20 : decode cL_benchDay 20 = .ok (.ireturn, 1) := by decide +kernel
theorem dL_benchDay_21 : decode cL_benchDay 21 = .ok (.iconst 0, 1) := by decide +kernel
theorem dL_benchDay_22 : decode cL_benchDay 22 = .ok (.ireturn, 1) := by decide +kernel
theorem dL_late_0 : decode cL_late 0 = .ok (.aload_n 2, 1) := by decide +kernel
theorem dL_late_1 : decode cL_late 1 = .ok (.iconst 0, 1) := by decide +kernel
theorem dL_late_2 : decode cL_late 2 = .ok (.aload_n 0, 1) := by decide +kernel
theorem dL_late_3 : decode cL_late 3 = .ok (.iload_n 1, 1) := by decide +kernel
theorem dL_late_4 : decode cL_late 4 = .ok (.invokevirtual 79, 3) := by decide +kernel
theorem dL_late_7 : decode cL_late 7 = .ok (.i2l, 1) := by decide +kernel
theorem dL_late_8 : decode cL_late 8 = .ok (.lastore, 1) := by decide +kernel
theorem dL_late_9 : decode cL_late 9 = .ok (.goto 6, 3) := by decide +kernel
theorem dL_late_12 : decode cL_late 12 = .ok (.astore_n 3, 1) := by decide +kernel
theorem dL_late_13 : decode cL_late 13 = .ok (.iconst 1, 1) := by decide +kernel
theorem dL_late_14 : decode cL_late 14 = .ok (.ireturn, 1) := by decide +kernel
theorem dL_late_15 : decode cL_late 15 = .ok (.iconst 0, 1) := by decide +kernel
theorem dL_late_16 : decode cL_late 16 = .ok (.ireturn, 1) := by decide +kernel
theorem dL_law_0 : decode cL_law 0 = .ok (.new 8, 3) := by decide +kernel
theorem dL_law_3 : decode cL_law 3 = .ok (.dup, 1) := by decide +kernel
theorem dL_law_4 : decode cL_law 4 = .ok (.invokespecial 82, 3) := by decide +kernel
theorem dL_law_7 : decode cL_law 7 = .ok (.astore_n 1, 1) := by decide +kernel
theorem dL_law_8 : decode cL_law 8 = .ok (.new 83, 3) := by decide +kernel
theorem dL_law_11 : decode cL_law 11 = .ok (.dup, 1) := by decide +kernel
theorem dL_law_12 : decode cL_law 12 = .ok (.invokespecial 85, 3) := by decide +kernel
theorem dL_law_15 : decode cL_law 15 = .ok (.astore_n 2, 1) := by decide +kernel
theorem dL_law_16 : decode cL_law 16 = .ok (.iconst 1, 1) := by decide +kernel
theorem dL_law_17 : decode cL_law 17 = .ok (.newarray .long, 2) := by decide +kernel
theorem dL_law_19 : decode cL_law 19 = .ok (.astore_n 3, 1) := by decide +kernel
theorem dL_law_20 : decode cL_law 20 = .ok (.iconst 1, 1) := by decide +kernel
theorem dL_law_21 : decode cL_law 21 = .ok (.newarray .double, 2) := by decide +kernel
theorem dL_law_23 : decode cL_law 23 = .ok (.astore 4, 2) := by decide +kernel
theorem dL_law_25 : decode cL_law 25 = .ok (.iconst 0, 1) := by decide +kernel
theorem dL_law_26 : decode cL_law 26 = .ok (.istore 5, 2) := by decide +kernel
theorem dL_law_28 : decode cL_law 28 = .ok (.iload 5, 2) := by decide +kernel
theorem dL_law_30 : decode cL_law 30 = .ok (.aload_n 0, 1) := by decide +kernel
theorem dL_law_31 : decode cL_law 31 = .ok (.arraylength, 1) := by decide +kernel
theorem dL_law_32 : decode cL_law 32 = .ok (.iconst 5, 1) := by decide +kernel
theorem dL_law_33 : decode cL_law 33 = .ok (.isub, 1) := by decide +kernel
theorem dL_law_34 : decode cL_law 34 = .ok (.if_icmp .gt 1447, 3) := by decide +kernel
theorem dL_law_37 : decode cL_law 37 = .ok (.aload_n 0, 1) := by decide +kernel
theorem dL_law_38 : decode cL_law 38 = .ok (.iload 5, 2) := by decide +kernel
theorem dL_law_40 : decode cL_law 40 = .ok (.iaload, 1) := by decide +kernel
theorem dL_law_41 : decode cL_law 41 = .ok (.bipush 31, 2) := by decide +kernel
theorem dL_law_43 : decode cL_law 43 = .ok (.iand, 1) := by decide +kernel
theorem dL_law_44 : decode cL_law 44 = .ok (.tableswitch 1431 0 24 #[116, 208, 276, 332, 345, 358, 438, 494, 550, 606, 669, 725, 781, 837, 914, 981, 1037, 1093, 1149, 1162, 1225, 1238, 1251, 1307, 1375], 116) := by decide +kernel
theorem dL_law_160 : decode cL_law 160 = .ok (.aload_n 1, 1) := by decide +kernel
theorem dL_law_161 : decode cL_law 161 = .ok (.aload_n 0, 1) := by decide +kernel
theorem dL_law_162 : decode cL_law 162 = .ok (.iload 5, 2) := by decide +kernel
theorem dL_law_164 : decode cL_law 164 = .ok (.iconst 1, 1) := by decide +kernel
theorem dL_law_165 : decode cL_law 165 = .ok (.iadd, 1) := by decide +kernel
theorem dL_law_166 : decode cL_law 166 = .ok (.iaload, 1) := by decide +kernel
theorem dL_law_167 : decode cL_law 167 = .ok (.aload_n 0, 1) := by decide +kernel
theorem dL_law_168 : decode cL_law 168 = .ok (.iload 5, 2) := by decide +kernel
theorem dL_law_170 : decode cL_law 170 = .ok (.iconst 2, 1) := by decide +kernel
theorem dL_law_171 : decode cL_law 171 = .ok (.iadd, 1) := by decide +kernel
theorem dL_law_172 : decode cL_law 172 = .ok (.iaload, 1) := by decide +kernel
theorem dL_law_173 : decode cL_law 173 = .ok (.aload_n 0, 1) := by decide +kernel
theorem dL_law_174 : decode cL_law 174 = .ok (.iload 5, 2) := by decide +kernel
theorem dL_law_176 : decode cL_law 176 = .ok (.iconst 3, 1) := by decide +kernel
theorem dL_law_177 : decode cL_law 177 = .ok (.iadd, 1) := by decide +kernel
theorem dL_law_178 : decode cL_law 178 = .ok (.iaload, 1) := by decide +kernel
theorem dL_law_179 : decode cL_law 179 = .ok (.aload_n 0, 1) := by decide +kernel
theorem dL_law_180 : decode cL_law 180 = .ok (.iload 5, 2) := by decide +kernel
theorem dL_law_182 : decode cL_law 182 = .ok (.iconst 4, 1) := by decide +kernel
theorem dL_law_183 : decode cL_law 183 = .ok (.iadd, 1) := by decide +kernel
theorem dL_law_184 : decode cL_law 184 = .ok (.iaload, 1) := by decide +kernel
theorem dL_law_185 : decode cL_law 185 = .ok (.aload_n 3, 1) := by decide +kernel
theorem dL_law_186 : decode cL_law 186 = .ok (.invokestatic 86, 3) := by decide +kernel
theorem dL_law_189 : decode cL_law 189 = .ok (.istore 6, 2) := by decide +kernel
theorem dL_law_191 : decode cL_law 191 = .ok (.aload_n 2, 1) := by decide +kernel
theorem dL_law_192 : decode cL_law 192 = .ok (.aload_n 0, 1) := by decide +kernel
theorem dL_law_193 : decode cL_law 193 = .ok (.iload 5, 2) := by decide +kernel
theorem dL_law_195 : decode cL_law 195 = .ok (.iconst 1, 1) := by decide +kernel
theorem dL_law_196 : decode cL_law 196 = .ok (.iadd, 1) := by decide +kernel
theorem dL_law_197 : decode cL_law 197 = .ok (.iaload, 1) := by decide +kernel
theorem dL_law_198 : decode cL_law 198 = .ok (.aload_n 0, 1) := by decide +kernel
theorem dL_law_199 : decode cL_law 199 = .ok (.iload 5, 2) := by decide +kernel
theorem dL_law_201 : decode cL_law 201 = .ok (.iconst 2, 1) := by decide +kernel
theorem dL_law_202 : decode cL_law 202 = .ok (.iadd, 1) := by decide +kernel
theorem dL_law_203 : decode cL_law 203 = .ok (.iaload, 1) := by decide +kernel
theorem dL_law_204 : decode cL_law 204 = .ok (.aload_n 0, 1) := by decide +kernel
theorem dL_law_205 : decode cL_law 205 = .ok (.iload 5, 2) := by decide +kernel
theorem dL_law_207 : decode cL_law 207 = .ok (.iconst 3, 1) := by decide +kernel
theorem dL_law_208 : decode cL_law 208 = .ok (.iadd, 1) := by decide +kernel
theorem dL_law_209 : decode cL_law 209 = .ok (.iaload, 1) := by decide +kernel
theorem dL_law_210 : decode cL_law 210 = .ok (.aload_n 0, 1) := by decide +kernel
theorem dL_law_211 : decode cL_law 211 = .ok (.iload 5, 2) := by decide +kernel
theorem dL_law_213 : decode cL_law 213 = .ok (.iconst 4, 1) := by decide +kernel
theorem dL_law_214 : decode cL_law 214 = .ok (.iadd, 1) := by decide +kernel
theorem dL_law_215 : decode cL_law 215 = .ok (.iaload, 1) := by decide +kernel
theorem dL_law_216 : decode cL_law 216 = .ok (.invokevirtual 91, 3) := by decide +kernel
theorem dL_law_219 : decode cL_law 219 = .ok (.istore 7, 2) := by decide +kernel
theorem dL_law_221 : decode cL_law 221 = .ok (.aload_n 2, 1) := by decide +kernel
theorem dL_law_222 : decode cL_law 222 = .ok (.invokevirtual 92, 3) := by decide +kernel
theorem dL_law_225 : decode cL_law 225 = .ok (.iload 6, 2) := by decide +kernel
theorem dL_law_227 : decode cL_law 227 = .ok (.if_icmp .eq 5, 3) := by decide +kernel
theorem dL_law_230 : decode cL_law 230 = .ok (.iconst 0, 1) := by decide +kernel
theorem dL_law_231 : decode cL_law 231 = .ok (.ireturn, 1) := by decide +kernel
theorem dL_law_232 : decode cL_law 232 = .ok (.iload 6, 2) := by decide +kernel
theorem dL_law_234 : decode cL_law 234 = .ok (.ifCond .ne 15, 3) := by decide +kernel
theorem dL_law_237 : decode cL_law 237 = .ok (.aload_n 3, 1) := by decide +kernel
theorem dL_law_238 : decode cL_law 238 = .ok (.iconst 0, 1) := by decide +kernel
theorem dL_law_239 : decode cL_law 239 = .ok (.laload, 1) := by decide +kernel
theorem dL_law_240 : decode cL_law 240 = .ok (.iload 7, 2) := by decide +kernel
theorem dL_law_242 : decode cL_law 242 = .ok (.i2l, 1) := by decide +kernel
theorem dL_law_243 : decode cL_law 243 = .ok (.lcmp, 1) := by decide +kernel
theorem dL_law_244 : decode cL_law 244 = .ok (.ifCond .eq 5, 3) := by decide +kernel
theorem dL_law_247 : decode cL_law 247 = .ok (.iconst 0, 1) := by decide +kernel
theorem dL_law_248 : decode cL_law 248 = .ok (.ireturn, 1) := by decide +kernel
theorem dL_law_249 : decode cL_law 249 = .ok (.goto 1226, 3) := by decide +kernel
theorem dL_law_252 : decode cL_law 252 = .ok (.aload_n 1, 1) := by decide +kernel
theorem dL_law_253 : decode cL_law 253 = .ok (.aload_n 0, 1) := by decide +kernel
theorem dL_law_254 : decode cL_law 254 = .ok (.iload 5, 2) := by decide +kernel
theorem dL_law_256 : decode cL_law 256 = .ok (.iconst 1, 1) := by decide +kernel
theorem dL_law_257 : decode cL_law 257 = .ok (.iadd, 1) := by decide +kernel
theorem dL_law_258 : decode cL_law 258 = .ok (.iaload, 1) := by decide +kernel
theorem dL_law_259 : decode cL_law 259 = .ok (.aload_n 0, 1) := by decide +kernel
theorem dL_law_260 : decode cL_law 260 = .ok (.iload 5, 2) := by decide +kernel
theorem dL_law_262 : decode cL_law 262 = .ok (.iconst 2, 1) := by decide +kernel
theorem dL_law_263 : decode cL_law 263 = .ok (.iadd, 1) := by decide +kernel
theorem dL_law_264 : decode cL_law 264 = .ok (.iaload, 1) := by decide +kernel
theorem dL_law_265 : decode cL_law 265 = .ok (.aload_n 3, 1) := by decide +kernel
theorem dL_law_266 : decode cL_law 266 = .ok (.invokestatic 96, 3) := by decide +kernel
theorem dL_law_269 : decode cL_law 269 = .ok (.istore 6, 2) := by decide +kernel
theorem dL_law_271 : decode cL_law 271 = .ok (.aload_n 2, 1) := by decide +kernel
theorem dL_law_272 : decode cL_law 272 = .ok (.aload_n 0, 1) := by decide +kernel
theorem dL_law_273 : decode cL_law 273 = .ok (.iload 5, 2) := by decide +kernel
theorem dL_law_275 : decode cL_law 275 = .ok (.iconst 1, 1) := by decide +kernel
theorem dL_law_276 : decode cL_law 276 = .ok (.iadd, 1) := by decide +kernel
theorem dL_law_277 : decode cL_law 277 = .ok (.iaload, 1) := by decide +kernel
theorem dL_law_278 : decode cL_law 278 = .ok (.aload_n 0, 1) := by decide +kernel
theorem dL_law_279 : decode cL_law 279 = .ok (.iload 5, 2) := by decide +kernel
theorem dL_law_281 : decode cL_law 281 = .ok (.iconst 2, 1) := by decide +kernel
theorem dL_law_282 : decode cL_law 282 = .ok (.iadd, 1) := by decide +kernel
theorem dL_law_283 : decode cL_law 283 = .ok (.iaload, 1) := by decide +kernel
theorem dL_law_284 : decode cL_law 284 = .ok (.invokevirtual 99, 3) := by decide +kernel
theorem dL_law_287 : decode cL_law 287 = .ok (.istore 7, 2) := by decide +kernel
theorem dL_law_289 : decode cL_law 289 = .ok (.aload_n 2, 1) := by decide +kernel
theorem dL_law_290 : decode cL_law 290 = .ok (.invokevirtual 92, 3) := by decide +kernel
theorem dL_law_293 : decode cL_law 293 = .ok (.iload 6, 2) := by decide +kernel
theorem dL_law_295 : decode cL_law 295 = .ok (.if_icmp .eq 5, 3) := by decide +kernel
theorem dL_law_298 : decode cL_law 298 = .ok (.iconst 0, 1) := by decide +kernel
theorem dL_law_299 : decode cL_law 299 = .ok (.ireturn, 1) := by decide +kernel
theorem dL_law_300 : decode cL_law 300 = .ok (.iload 6, 2) := by decide +kernel
theorem dL_law_302 : decode cL_law 302 = .ok (.ifCond .ne 15, 3) := by decide +kernel
theorem dL_law_305 : decode cL_law 305 = .ok (.aload_n 3, 1) := by decide +kernel
theorem dL_law_306 : decode cL_law 306 = .ok (.iconst 0, 1) := by decide +kernel
theorem dL_law_307 : decode cL_law 307 = .ok (.laload, 1) := by decide +kernel
theorem dL_law_308 : decode cL_law 308 = .ok (.iload 7, 2) := by decide +kernel
theorem dL_law_310 : decode cL_law 310 = .ok (.i2l, 1) := by decide +kernel
theorem dL_law_311 : decode cL_law 311 = .ok (.lcmp, 1) := by decide +kernel
theorem dL_law_312 : decode cL_law 312 = .ok (.ifCond .eq 5, 3) := by decide +kernel
theorem dL_law_315 : decode cL_law 315 = .ok (.iconst 0, 1) := by decide +kernel
theorem dL_law_316 : decode cL_law 316 = .ok (.ireturn, 1) := by decide +kernel
theorem dL_law_317 : decode cL_law 317 = .ok (.goto 1158, 3) := by decide +kernel
theorem dL_law_320 : decode cL_law 320 = .ok (.aload_n 1, 1) := by decide +kernel
theorem dL_law_321 : decode cL_law 321 = .ok (.aload_n 0, 1) := by decide +kernel
theorem dL_law_322 : decode cL_law 322 = .ok (.iload 5, 2) := by decide +kernel
theorem dL_law_324 : decode cL_law 324 = .ok (.iconst 1, 1) := by decide +kernel
theorem dL_law_325 : decode cL_law 325 = .ok (.iadd, 1) := by decide +kernel
theorem dL_law_326 : decode cL_law 326 = .ok (.iaload, 1) := by decide +kernel
theorem dL_law_327 : decode cL_law 327 = .ok (.aload_n 3, 1) := by decide +kernel
theorem dL_law_328 : decode cL_law 328 = .ok (.invokestatic 100, 3) := by decide +kernel
theorem dL_law_331 : decode cL_law 331 = .ok (.istore 6, 2) := by decide +kernel
theorem dL_law_333 : decode cL_law 333 = .ok (.aload_n 2, 1) := by decide +kernel
theorem dL_law_334 : decode cL_law 334 = .ok (.aload_n 0, 1) := by decide +kernel
theorem dL_law_335 : decode cL_law 335 = .ok (.iload 5, 2) := by decide +kernel
theorem dL_law_337 : decode cL_law 337 = .ok (.iconst 1, 1) := by decide +kernel
theorem dL_law_338 : decode cL_law 338 = .ok (.iadd, 1) := by decide +kernel
theorem dL_law_339 : decode cL_law 339 = .ok (.iaload, 1) := by decide +kernel
theorem dL_law_340 : decode cL_law 340 = .ok (.invokevirtual 103, 3) := by decide +kernel
theorem dL_law_343 : decode cL_law 343 = .ok (.istore 7, 2) := by decide +kernel
theorem dL_law_345 : decode cL_law 345 = .ok (.aload_n 2, 1) := by decide +kernel
theorem dL_law_346 : decode cL_law 346 = .ok (.invokevirtual 92, 3) := by decide +kernel
theorem dL_law_349 : decode cL_law 349 = .ok (.iload 6, 2) := by decide +kernel
theorem dL_law_351 : decode cL_law 351 = .ok (.if_icmp .eq 5, 3) := by decide +kernel
theorem dL_law_354 : decode cL_law 354 = .ok (.iconst 0, 1) := by decide +kernel
theorem dL_law_355 : decode cL_law 355 = .ok (.ireturn, 1) := by decide +kernel
theorem dL_law_356 : decode cL_law 356 = .ok (.iload 6, 2) := by decide +kernel
theorem dL_law_358 : decode cL_law 358 = .ok (.ifCond .ne 15, 3) := by decide +kernel
theorem dL_law_361 : decode cL_law 361 = .ok (.aload_n 3, 1) := by decide +kernel
theorem dL_law_362 : decode cL_law 362 = .ok (.iconst 0, 1) := by decide +kernel
theorem dL_law_363 : decode cL_law 363 = .ok (.laload, 1) := by decide +kernel
theorem dL_law_364 : decode cL_law 364 = .ok (.iload 7, 2) := by decide +kernel
theorem dL_law_366 : decode cL_law 366 = .ok (.i2l, 1) := by decide +kernel
theorem dL_law_367 : decode cL_law 367 = .ok (.lcmp, 1) := by decide +kernel
theorem dL_law_368 : decode cL_law 368 = .ok (.ifCond .eq 5, 3) := by decide +kernel
theorem dL_law_371 : decode cL_law 371 = .ok (.iconst 0, 1) := by decide +kernel
theorem dL_law_372 : decode cL_law 372 = .ok (.ireturn, 1) := by decide +kernel
theorem dL_law_373 : decode cL_law 373 = .ok (.goto 1102, 3) := by decide +kernel
theorem dL_law_376 : decode cL_law 376 = .ok (.aload_n 1, 1) := by decide +kernel
theorem dL_law_377 : decode cL_law 377 = .ok (.invokevirtual 104, 3) := by decide +kernel
theorem dL_law_380 : decode cL_law 380 = .ok (.aload_n 2, 1) := by decide +kernel
theorem dL_law_381 : decode cL_law 381 = .ok (.invokevirtual 107, 3) := by decide +kernel
theorem dL_law_384 : decode cL_law 384 = .ok (.if_icmp .eq 1091, 3) := by decide +kernel
theorem dL_law_387 : decode cL_law 387 = .ok (.iconst 0, 1) := by decide +kernel
theorem dL_law_388 : decode cL_law 388 = .ok (.ireturn, 1) := by decide +kernel
theorem dL_law_389 : decode cL_law 389 = .ok (.aload_n 1, 1) := by decide +kernel
theorem dL_law_390 : decode cL_law 390 = .ok (.invokevirtual 108, 3) := by decide +kernel
theorem dL_law_393 : decode cL_law 393 = .ok (.aload_n 2, 1) := by decide +kernel
theorem dL_law_394 : decode cL_law 394 = .ok (.invokevirtual 111, 3) := by decide +kernel
theorem dL_law_397 : decode cL_law 397 = .ok (.if_icmp .eq 1078, 3) := by decide +kernel
theorem dL_law_400 : decode cL_law 400 = .ok (.iconst 0, 1) := by decide +kernel
theorem dL_law_401 : decode cL_law 401 = .ok (.ireturn, 1) := by decide +kernel
theorem dL_law_402 : decode cL_law 402 = .ok (.aload_n 1, 1) := by decide +kernel
theorem dL_law_403 : decode cL_law 403 = .ok (.aload_n 0, 1) := by decide +kernel
theorem dL_law_404 : decode cL_law 404 = .ok (.iload 5, 2) := by decide +kernel
theorem dL_law_406 : decode cL_law 406 = .ok (.iconst 1, 1) := by decide +kernel
theorem dL_law_407 : decode cL_law 407 = .ok (.iadd, 1) := by decide +kernel
theorem dL_law_408 : decode cL_law 408 = .ok (.iaload, 1) := by decide +kernel
theorem dL_law_409 : decode cL_law 409 = .ok (.aload_n 0, 1) := by decide +kernel
theorem dL_law_410 : decode cL_law 410 = .ok (.iload 5, 2) := by decide +kernel
theorem dL_law_412 : decode cL_law 412 = .ok (.iconst 2, 1) := by decide +kernel
theorem dL_law_413 : decode cL_law 413 = .ok (.iadd, 1) := by decide +kernel
theorem dL_law_414 : decode cL_law 414 = .ok (.iaload, 1) := by decide +kernel
theorem dL_law_415 : decode cL_law 415 = .ok (.aload_n 0, 1) := by decide +kernel
theorem dL_law_416 : decode cL_law 416 = .ok (.iload 5, 2) := by decide +kernel
theorem dL_law_418 : decode cL_law 418 = .ok (.iconst 3, 1) := by decide +kernel
theorem dL_law_419 : decode cL_law 419 = .ok (.iadd, 1) := by decide +kernel
theorem dL_law_420 : decode cL_law 420 = .ok (.iaload, 1) := by decide +kernel
theorem dL_law_421 : decode cL_law 421 = .ok (.aload_n 3, 1) := by decide +kernel
theorem dL_law_422 : decode cL_law 422 = .ok (.invokestatic 112, 3) := by decide +kernel
theorem dL_law_425 : decode cL_law 425 = .ok (.istore 6, 2) := by decide +kernel
theorem dL_law_427 : decode cL_law 427 = .ok (.aload_n 2, 1) := by decide +kernel
theorem dL_law_428 : decode cL_law 428 = .ok (.aload_n 0, 1) := by decide +kernel
theorem dL_law_429 : decode cL_law 429 = .ok (.iload 5, 2) := by decide +kernel
theorem dL_law_431 : decode cL_law 431 = .ok (.iconst 1, 1) := by decide +kernel
theorem dL_law_432 : decode cL_law 432 = .ok (.iadd, 1) := by decide +kernel
theorem dL_law_433 : decode cL_law 433 = .ok (.iaload, 1) := by decide +kernel
theorem dL_law_434 : decode cL_law 434 = .ok (.aload_n 0, 1) := by decide +kernel
theorem dL_law_435 : decode cL_law 435 = .ok (.iload 5, 2) := by decide +kernel
theorem dL_law_437 : decode cL_law 437 = .ok (.iconst 2, 1) := by decide +kernel
theorem dL_law_438 : decode cL_law 438 = .ok (.iadd, 1) := by decide +kernel
theorem dL_law_439 : decode cL_law 439 = .ok (.iaload, 1) := by decide +kernel
theorem dL_law_440 : decode cL_law 440 = .ok (.aload_n 0, 1) := by decide +kernel
theorem dL_law_441 : decode cL_law 441 = .ok (.iload 5, 2) := by decide +kernel
theorem dL_law_443 : decode cL_law 443 = .ok (.iconst 3, 1) := by decide +kernel
theorem dL_law_444 : decode cL_law 444 = .ok (.iadd, 1) := by decide +kernel
theorem dL_law_445 : decode cL_law 445 = .ok (.iaload, 1) := by decide +kernel
theorem dL_law_446 : decode cL_law 446 = .ok (.invokevirtual 115, 3) := by decide +kernel
theorem dL_law_449 : decode cL_law 449 = .ok (.istore 7, 2) := by decide +kernel
theorem dL_law_451 : decode cL_law 451 = .ok (.aload_n 2, 1) := by decide +kernel
theorem dL_law_452 : decode cL_law 452 = .ok (.invokevirtual 92, 3) := by decide +kernel
theorem dL_law_455 : decode cL_law 455 = .ok (.iload 6, 2) := by decide +kernel
theorem dL_law_457 : decode cL_law 457 = .ok (.if_icmp .eq 5, 3) := by decide +kernel
theorem dL_law_460 : decode cL_law 460 = .ok (.iconst 0, 1) := by decide +kernel
theorem dL_law_461 : decode cL_law 461 = .ok (.ireturn, 1) := by decide +kernel
theorem dL_law_462 : decode cL_law 462 = .ok (.iload 6, 2) := by decide +kernel
theorem dL_law_464 : decode cL_law 464 = .ok (.ifCond .ne 15, 3) := by decide +kernel
theorem dL_law_467 : decode cL_law 467 = .ok (.aload_n 3, 1) := by decide +kernel
theorem dL_law_468 : decode cL_law 468 = .ok (.iconst 0, 1) := by decide +kernel
theorem dL_law_469 : decode cL_law 469 = .ok (.laload, 1) := by decide +kernel
theorem dL_law_470 : decode cL_law 470 = .ok (.iload 7, 2) := by decide +kernel
theorem dL_law_472 : decode cL_law 472 = .ok (.i2l, 1) := by decide +kernel
theorem dL_law_473 : decode cL_law 473 = .ok (.lcmp, 1) := by decide +kernel
theorem dL_law_474 : decode cL_law 474 = .ok (.ifCond .eq 5, 3) := by decide +kernel
theorem dL_law_477 : decode cL_law 477 = .ok (.iconst 0, 1) := by decide +kernel
theorem dL_law_478 : decode cL_law 478 = .ok (.ireturn, 1) := by decide +kernel
theorem dL_law_479 : decode cL_law 479 = .ok (.goto 996, 3) := by decide +kernel
theorem dL_law_482 : decode cL_law 482 = .ok (.aload_n 1, 1) := by decide +kernel
theorem dL_law_483 : decode cL_law 483 = .ok (.aload_n 0, 1) := by decide +kernel
theorem dL_law_484 : decode cL_law 484 = .ok (.iload 5, 2) := by decide +kernel
theorem dL_law_486 : decode cL_law 486 = .ok (.iconst 1, 1) := by decide +kernel
theorem dL_law_487 : decode cL_law 487 = .ok (.iadd, 1) := by decide +kernel
theorem dL_law_488 : decode cL_law 488 = .ok (.iaload, 1) := by decide +kernel
theorem dL_law_489 : decode cL_law 489 = .ok (.aload_n 3, 1) := by decide +kernel
theorem dL_law_490 : decode cL_law 490 = .ok (.invokestatic 116, 3) := by decide +kernel
theorem dL_law_493 : decode cL_law 493 = .ok (.istore 6, 2) := by decide +kernel
theorem dL_law_495 : decode cL_law 495 = .ok (.aload_n 2, 1) := by decide +kernel
theorem dL_law_496 : decode cL_law 496 = .ok (.aload_n 0, 1) := by decide +kernel
theorem dL_law_497 : decode cL_law 497 = .ok (.iload 5, 2) := by decide +kernel
theorem dL_law_499 : decode cL_law 499 = .ok (.iconst 1, 1) := by decide +kernel
theorem dL_law_500 : decode cL_law 500 = .ok (.iadd, 1) := by decide +kernel
theorem dL_law_501 : decode cL_law 501 = .ok (.iaload, 1) := by decide +kernel
theorem dL_law_502 : decode cL_law 502 = .ok (.invokevirtual 118, 3) := by decide +kernel
theorem dL_law_505 : decode cL_law 505 = .ok (.istore 7, 2) := by decide +kernel
theorem dL_law_507 : decode cL_law 507 = .ok (.aload_n 2, 1) := by decide +kernel
theorem dL_law_508 : decode cL_law 508 = .ok (.invokevirtual 92, 3) := by decide +kernel
theorem dL_law_511 : decode cL_law 511 = .ok (.iload 6, 2) := by decide +kernel
theorem dL_law_513 : decode cL_law 513 = .ok (.if_icmp .eq 5, 3) := by decide +kernel
theorem dL_law_516 : decode cL_law 516 = .ok (.iconst 0, 1) := by decide +kernel
theorem dL_law_517 : decode cL_law 517 = .ok (.ireturn, 1) := by decide +kernel
theorem dL_law_518 : decode cL_law 518 = .ok (.iload 6, 2) := by decide +kernel
theorem dL_law_520 : decode cL_law 520 = .ok (.ifCond .ne 15, 3) := by decide +kernel
theorem dL_law_523 : decode cL_law 523 = .ok (.aload_n 3, 1) := by decide +kernel
theorem dL_law_524 : decode cL_law 524 = .ok (.iconst 0, 1) := by decide +kernel
theorem dL_law_525 : decode cL_law 525 = .ok (.laload, 1) := by decide +kernel
theorem dL_law_526 : decode cL_law 526 = .ok (.iload 7, 2) := by decide +kernel
theorem dL_law_528 : decode cL_law 528 = .ok (.i2l, 1) := by decide +kernel
theorem dL_law_529 : decode cL_law 529 = .ok (.lcmp, 1) := by decide +kernel
theorem dL_law_530 : decode cL_law 530 = .ok (.ifCond .eq 5, 3) := by decide +kernel
theorem dL_law_533 : decode cL_law 533 = .ok (.iconst 0, 1) := by decide +kernel
theorem dL_law_534 : decode cL_law 534 = .ok (.ireturn, 1) := by decide +kernel
theorem dL_law_535 : decode cL_law 535 = .ok (.goto 940, 3) := by decide +kernel
theorem dL_law_538 : decode cL_law 538 = .ok (.aload_n 1, 1) := by decide +kernel
theorem dL_law_539 : decode cL_law 539 = .ok (.aload_n 0, 1) := by decide +kernel
theorem dL_law_540 : decode cL_law 540 = .ok (.iload 5, 2) := by decide +kernel
theorem dL_law_542 : decode cL_law 542 = .ok (.iconst 1, 1) := by decide +kernel
theorem dL_law_543 : decode cL_law 543 = .ok (.iadd, 1) := by decide +kernel
theorem dL_law_544 : decode cL_law 544 = .ok (.iaload, 1) := by decide +kernel
theorem dL_law_545 : decode cL_law 545 = .ok (.aload_n 3, 1) := by decide +kernel
theorem dL_law_546 : decode cL_law 546 = .ok (.invokestatic 119, 3) := by decide +kernel
theorem dL_law_549 : decode cL_law 549 = .ok (.istore 6, 2) := by decide +kernel
theorem dL_law_551 : decode cL_law 551 = .ok (.aload_n 2, 1) := by decide +kernel
theorem dL_law_552 : decode cL_law 552 = .ok (.aload_n 0, 1) := by decide +kernel
theorem dL_law_553 : decode cL_law 553 = .ok (.iload 5, 2) := by decide +kernel
theorem dL_law_555 : decode cL_law 555 = .ok (.iconst 1, 1) := by decide +kernel
theorem dL_law_556 : decode cL_law 556 = .ok (.iadd, 1) := by decide +kernel
theorem dL_law_557 : decode cL_law 557 = .ok (.iaload, 1) := by decide +kernel
theorem dL_law_558 : decode cL_law 558 = .ok (.invokevirtual 121, 3) := by decide +kernel
theorem dL_law_561 : decode cL_law 561 = .ok (.istore 7, 2) := by decide +kernel
theorem dL_law_563 : decode cL_law 563 = .ok (.aload_n 2, 1) := by decide +kernel
theorem dL_law_564 : decode cL_law 564 = .ok (.invokevirtual 92, 3) := by decide +kernel
theorem dL_law_567 : decode cL_law 567 = .ok (.iload 6, 2) := by decide +kernel
theorem dL_law_569 : decode cL_law 569 = .ok (.if_icmp .eq 5, 3) := by decide +kernel
theorem dL_law_572 : decode cL_law 572 = .ok (.iconst 0, 1) := by decide +kernel
theorem dL_law_573 : decode cL_law 573 = .ok (.ireturn, 1) := by decide +kernel
theorem dL_law_574 : decode cL_law 574 = .ok (.iload 6, 2) := by decide +kernel
theorem dL_law_576 : decode cL_law 576 = .ok (.ifCond .ne 15, 3) := by decide +kernel
theorem dL_law_579 : decode cL_law 579 = .ok (.aload_n 3, 1) := by decide +kernel
theorem dL_law_580 : decode cL_law 580 = .ok (.iconst 0, 1) := by decide +kernel
theorem dL_law_581 : decode cL_law 581 = .ok (.laload, 1) := by decide +kernel
theorem dL_law_582 : decode cL_law 582 = .ok (.iload 7, 2) := by decide +kernel
theorem dL_law_584 : decode cL_law 584 = .ok (.i2l, 1) := by decide +kernel
theorem dL_law_585 : decode cL_law 585 = .ok (.lcmp, 1) := by decide +kernel
theorem dL_law_586 : decode cL_law 586 = .ok (.ifCond .eq 5, 3) := by decide +kernel
theorem dL_law_589 : decode cL_law 589 = .ok (.iconst 0, 1) := by decide +kernel
theorem dL_law_590 : decode cL_law 590 = .ok (.ireturn, 1) := by decide +kernel
theorem dL_law_591 : decode cL_law 591 = .ok (.goto 884, 3) := by decide +kernel
theorem dL_law_594 : decode cL_law 594 = .ok (.aload_n 1, 1) := by decide +kernel
theorem dL_law_595 : decode cL_law 595 = .ok (.aload_n 0, 1) := by decide +kernel
theorem dL_law_596 : decode cL_law 596 = .ok (.iload 5, 2) := by decide +kernel
theorem dL_law_598 : decode cL_law 598 = .ok (.iconst 1, 1) := by decide +kernel
theorem dL_law_599 : decode cL_law 599 = .ok (.iadd, 1) := by decide +kernel
theorem dL_law_600 : decode cL_law 600 = .ok (.iaload, 1) := by decide +kernel
theorem dL_law_601 : decode cL_law 601 = .ok (.aload_n 3, 1) := by decide +kernel
theorem dL_law_602 : decode cL_law 602 = .ok (.invokestatic 122, 3) := by decide +kernel
theorem dL_law_605 : decode cL_law 605 = .ok (.istore 6, 2) := by decide +kernel
theorem dL_law_607 : decode cL_law 607 = .ok (.aload_n 2, 1) := by decide +kernel
theorem dL_law_608 : decode cL_law 608 = .ok (.aload_n 0, 1) := by decide +kernel
theorem dL_law_609 : decode cL_law 609 = .ok (.iload 5, 2) := by decide +kernel
theorem dL_law_611 : decode cL_law 611 = .ok (.iconst 1, 1) := by decide +kernel
theorem dL_law_612 : decode cL_law 612 = .ok (.iadd, 1) := by decide +kernel
theorem dL_law_613 : decode cL_law 613 = .ok (.iaload, 1) := by decide +kernel
theorem dL_law_614 : decode cL_law 614 = .ok (.invokevirtual 124, 3) := by decide +kernel
theorem dL_law_617 : decode cL_law 617 = .ok (.istore 7, 2) := by decide +kernel
theorem dL_law_619 : decode cL_law 619 = .ok (.aload_n 2, 1) := by decide +kernel
theorem dL_law_620 : decode cL_law 620 = .ok (.invokevirtual 92, 3) := by decide +kernel
theorem dL_law_623 : decode cL_law 623 = .ok (.iload 6, 2) := by decide +kernel
theorem dL_law_625 : decode cL_law 625 = .ok (.if_icmp .eq 5, 3) := by decide +kernel
theorem dL_law_628 : decode cL_law 628 = .ok (.iconst 0, 1) := by decide +kernel
theorem dL_law_629 : decode cL_law 629 = .ok (.ireturn, 1) := by decide +kernel
theorem dL_law_630 : decode cL_law 630 = .ok (.iload 6, 2) := by decide +kernel
theorem dL_law_632 : decode cL_law 632 = .ok (.ifCond .ne 15, 3) := by decide +kernel
theorem dL_law_635 : decode cL_law 635 = .ok (.aload_n 3, 1) := by decide +kernel
theorem dL_law_636 : decode cL_law 636 = .ok (.iconst 0, 1) := by decide +kernel
theorem dL_law_637 : decode cL_law 637 = .ok (.laload, 1) := by decide +kernel
theorem dL_law_638 : decode cL_law 638 = .ok (.iload 7, 2) := by decide +kernel
theorem dL_law_640 : decode cL_law 640 = .ok (.i2l, 1) := by decide +kernel
theorem dL_law_641 : decode cL_law 641 = .ok (.lcmp, 1) := by decide +kernel
theorem dL_law_642 : decode cL_law 642 = .ok (.ifCond .eq 5, 3) := by decide +kernel
theorem dL_law_645 : decode cL_law 645 = .ok (.iconst 0, 1) := by decide +kernel
theorem dL_law_646 : decode cL_law 646 = .ok (.ireturn, 1) := by decide +kernel
theorem dL_law_647 : decode cL_law 647 = .ok (.goto 828, 3) := by decide +kernel
theorem dL_law_650 : decode cL_law 650 = .ok (.aload_n 1, 1) := by decide +kernel
theorem dL_law_651 : decode cL_law 651 = .ok (.aload_n 0, 1) := by decide +kernel
theorem dL_law_652 : decode cL_law 652 = .ok (.iload 5, 2) := by decide +kernel
theorem dL_law_654 : decode cL_law 654 = .ok (.iconst 1, 1) := by decide +kernel
theorem dL_law_655 : decode cL_law 655 = .ok (.iadd, 1) := by decide +kernel
theorem dL_law_656 : decode cL_law 656 = .ok (.iaload, 1) := by decide +kernel
theorem dL_law_657 : decode cL_law 657 = .ok (.aload_n 3, 1) := by decide +kernel
theorem dL_law_658 : decode cL_law 658 = .ok (.invokestatic 125, 3) := by decide +kernel
theorem dL_law_661 : decode cL_law 661 = .ok (.istore 6, 2) := by decide +kernel
theorem dL_law_663 : decode cL_law 663 = .ok (.aload_n 2, 1) := by decide +kernel
theorem dL_law_664 : decode cL_law 664 = .ok (.aload_n 0, 1) := by decide +kernel
theorem dL_law_665 : decode cL_law 665 = .ok (.iload 5, 2) := by decide +kernel
theorem dL_law_667 : decode cL_law 667 = .ok (.iconst 1, 1) := by decide +kernel
theorem dL_law_668 : decode cL_law 668 = .ok (.iadd, 1) := by decide +kernel
theorem dL_law_669 : decode cL_law 669 = .ok (.iaload, 1) := by decide +kernel
theorem dL_law_670 : decode cL_law 670 = .ok (.invokevirtual 127, 3) := by decide +kernel
theorem dL_law_673 : decode cL_law 673 = .ok (.istore 7, 2) := by decide +kernel
theorem dL_law_675 : decode cL_law 675 = .ok (.aload_n 2, 1) := by decide +kernel
theorem dL_law_676 : decode cL_law 676 = .ok (.invokevirtual 92, 3) := by decide +kernel
theorem dL_law_679 : decode cL_law 679 = .ok (.iload 6, 2) := by decide +kernel
theorem dL_law_681 : decode cL_law 681 = .ok (.if_icmp .eq 5, 3) := by decide +kernel
theorem dL_law_684 : decode cL_law 684 = .ok (.iconst 0, 1) := by decide +kernel
theorem dL_law_685 : decode cL_law 685 = .ok (.ireturn, 1) := by decide +kernel
theorem dL_law_686 : decode cL_law 686 = .ok (.iload 6, 2) := by decide +kernel
theorem dL_law_688 : decode cL_law 688 = .ok (.ifCond .ne 22, 3) := by decide +kernel
theorem dL_law_691 : decode cL_law 691 = .ok (.aload_n 3, 1) := by decide +kernel
theorem dL_law_692 : decode cL_law 692 = .ok (.iconst 0, 1) := by decide +kernel
theorem dL_law_693 : decode cL_law 693 = .ok (.laload, 1) := by decide +kernel
theorem dL_law_694 : decode cL_law 694 = .ok (.iload 7, 2) := by decide +kernel
theorem dL_law_696 : decode cL_law 696 = .ok (.ifCond .eq 7, 3) := by decide +kernel
theorem dL_law_699 : decode cL_law 699 = .ok (.lconst 1, 1) := by decide +kernel
theorem dL_law_700 : decode cL_law 700 = .ok (.goto 4, 3) := by decide +kernel
theorem dL_law_703 : decode cL_law 703 = .ok (.lconst 0, 1) := by decide +kernel
theorem dL_law_704 : decode cL_law 704 = .ok (.lcmp, 1) := by decide +kernel
theorem dL_law_705 : decode cL_law 705 = .ok (.ifCond .eq 5, 3) := by decide +kernel
theorem dL_law_708 : decode cL_law 708 = .ok (.iconst 0, 1) := by decide +kernel
theorem dL_law_709 : decode cL_law 709 = .ok (.ireturn, 1) := by decide +kernel
theorem dL_law_710 : decode cL_law 710 = .ok (.goto 765, 3) := by decide +kernel
theorem dL_law_713 : decode cL_law 713 = .ok (.aload_n 1, 1) := by decide +kernel
theorem dL_law_714 : decode cL_law 714 = .ok (.aload_n 0, 1) := by decide +kernel
theorem dL_law_715 : decode cL_law 715 = .ok (.iload 5, 2) := by decide +kernel
theorem dL_law_717 : decode cL_law 717 = .ok (.iconst 1, 1) := by decide +kernel
theorem dL_law_718 : decode cL_law 718 = .ok (.iadd, 1) := by decide +kernel
theorem dL_law_719 : decode cL_law 719 = .ok (.iaload, 1) := by decide +kernel
theorem dL_law_720 : decode cL_law 720 = .ok (.aload_n 3, 1) := by decide +kernel
theorem dL_law_721 : decode cL_law 721 = .ok (.invokestatic 128, 3) := by decide +kernel
theorem dL_law_724 : decode cL_law 724 = .ok (.istore 6, 2) := by decide +kernel
theorem dL_law_726 : decode cL_law 726 = .ok (.aload_n 2, 1) := by decide +kernel
theorem dL_law_727 : decode cL_law 727 = .ok (.aload_n 0, 1) := by decide +kernel
theorem dL_law_728 : decode cL_law 728 = .ok (.iload 5, 2) := by decide +kernel
theorem dL_law_730 : decode cL_law 730 = .ok (.iconst 1, 1) := by decide +kernel
theorem dL_law_731 : decode cL_law 731 = .ok (.iadd, 1) := by decide +kernel
theorem dL_law_732 : decode cL_law 732 = .ok (.iaload, 1) := by decide +kernel
theorem dL_law_733 : decode cL_law 733 = .ok (.invokevirtual 130, 3) := by decide +kernel
theorem dL_law_736 : decode cL_law 736 = .ok (.istore 7, 2) := by decide +kernel
theorem dL_law_738 : decode cL_law 738 = .ok (.aload_n 2, 1) := by decide +kernel
theorem dL_law_739 : decode cL_law 739 = .ok (.invokevirtual 92, 3) := by decide +kernel
theorem dL_law_742 : decode cL_law 742 = .ok (.iload 6, 2) := by decide +kernel
theorem dL_law_744 : decode cL_law 744 = .ok (.if_icmp .eq 5, 3) := by decide +kernel
theorem dL_law_747 : decode cL_law 747 = .ok (.iconst 0, 1) := by decide +kernel
theorem dL_law_748 : decode cL_law 748 = .ok (.ireturn, 1) := by decide +kernel
theorem dL_law_749 : decode cL_law 749 = .ok (.iload 6, 2) := by decide +kernel
theorem dL_law_751 : decode cL_law 751 = .ok (.ifCond .ne 15, 3) := by decide +kernel
theorem dL_law_754 : decode cL_law 754 = .ok (.aload_n 3, 1) := by decide +kernel
theorem dL_law_755 : decode cL_law 755 = .ok (.iconst 0, 1) := by decide +kernel
theorem dL_law_756 : decode cL_law 756 = .ok (.laload, 1) := by decide +kernel
theorem dL_law_757 : decode cL_law 757 = .ok (.iload 7, 2) := by decide +kernel
theorem dL_law_759 : decode cL_law 759 = .ok (.i2l, 1) := by decide +kernel
theorem dL_law_760 : decode cL_law 760 = .ok (.lcmp, 1) := by decide +kernel
theorem dL_law_761 : decode cL_law 761 = .ok (.ifCond .eq 5, 3) := by decide +kernel
theorem dL_law_764 : decode cL_law 764 = .ok (.iconst 0, 1) := by decide +kernel
theorem dL_law_765 : decode cL_law 765 = .ok (.ireturn, 1) := by decide +kernel
theorem dL_law_766 : decode cL_law 766 = .ok (.goto 709, 3) := by decide +kernel
theorem dL_law_769 : decode cL_law 769 = .ok (.aload_n 1, 1) := by decide +kernel
theorem dL_law_770 : decode cL_law 770 = .ok (.aload_n 0, 1) := by decide +kernel
theorem dL_law_771 : decode cL_law 771 = .ok (.iload 5, 2) := by decide +kernel
theorem dL_law_773 : decode cL_law 773 = .ok (.iconst 1, 1) := by decide +kernel
theorem dL_law_774 : decode cL_law 774 = .ok (.iadd, 1) := by decide +kernel
theorem dL_law_775 : decode cL_law 775 = .ok (.iaload, 1) := by decide +kernel
theorem dL_law_776 : decode cL_law 776 = .ok (.aload_n 3, 1) := by decide +kernel
theorem dL_law_777 : decode cL_law 777 = .ok (.invokestatic 131, 3) := by decide +kernel
theorem dL_law_780 : decode cL_law 780 = .ok (.istore 6, 2) := by decide +kernel
theorem dL_law_782 : decode cL_law 782 = .ok (.aload_n 2, 1) := by decide +kernel
theorem dL_law_783 : decode cL_law 783 = .ok (.aload_n 0, 1) := by decide +kernel
theorem dL_law_784 : decode cL_law 784 = .ok (.iload 5, 2) := by decide +kernel
theorem dL_law_786 : decode cL_law 786 = .ok (.iconst 1, 1) := by decide +kernel
theorem dL_law_787 : decode cL_law 787 = .ok (.iadd, 1) := by decide +kernel
theorem dL_law_788 : decode cL_law 788 = .ok (.iaload, 1) := by decide +kernel
theorem dL_law_789 : decode cL_law 789 = .ok (.invokevirtual 133, 3) := by decide +kernel
theorem dL_law_792 : decode cL_law 792 = .ok (.istore 7, 2) := by decide +kernel
theorem dL_law_794 : decode cL_law 794 = .ok (.aload_n 2, 1) := by decide +kernel
theorem dL_law_795 : decode cL_law 795 = .ok (.invokevirtual 92, 3) := by decide +kernel
theorem dL_law_798 : decode cL_law 798 = .ok (.iload 6, 2) := by decide +kernel
theorem dL_law_800 : decode cL_law 800 = .ok (.if_icmp .eq 5, 3) := by decide +kernel
theorem dL_law_803 : decode cL_law 803 = .ok (.iconst 0, 1) := by decide +kernel
theorem dL_law_804 : decode cL_law 804 = .ok (.ireturn, 1) := by decide +kernel
theorem dL_law_805 : decode cL_law 805 = .ok (.iload 6, 2) := by decide +kernel
theorem dL_law_807 : decode cL_law 807 = .ok (.ifCond .ne 15, 3) := by decide +kernel
theorem dL_law_810 : decode cL_law 810 = .ok (.aload_n 3, 1) := by decide +kernel
theorem dL_law_811 : decode cL_law 811 = .ok (.iconst 0, 1) := by decide +kernel
theorem dL_law_812 : decode cL_law 812 = .ok (.laload, 1) := by decide +kernel
theorem dL_law_813 : decode cL_law 813 = .ok (.iload 7, 2) := by decide +kernel
theorem dL_law_815 : decode cL_law 815 = .ok (.i2l, 1) := by decide +kernel
theorem dL_law_816 : decode cL_law 816 = .ok (.lcmp, 1) := by decide +kernel
theorem dL_law_817 : decode cL_law 817 = .ok (.ifCond .eq 5, 3) := by decide +kernel
theorem dL_law_820 : decode cL_law 820 = .ok (.iconst 0, 1) := by decide +kernel
theorem dL_law_821 : decode cL_law 821 = .ok (.ireturn, 1) := by decide +kernel
theorem dL_law_822 : decode cL_law 822 = .ok (.goto 653, 3) := by decide +kernel
theorem dL_law_825 : decode cL_law 825 = .ok (.aload_n 1, 1) := by decide +kernel
theorem dL_law_826 : decode cL_law 826 = .ok (.aload_n 0, 1) := by decide +kernel
theorem dL_law_827 : decode cL_law 827 = .ok (.iload 5, 2) := by decide +kernel
theorem dL_law_829 : decode cL_law 829 = .ok (.iconst 1, 1) := by decide +kernel
theorem dL_law_830 : decode cL_law 830 = .ok (.iadd, 1) := by decide +kernel
theorem dL_law_831 : decode cL_law 831 = .ok (.iaload, 1) := by decide +kernel
theorem dL_law_832 : decode cL_law 832 = .ok (.aload_n 3, 1) := by decide +kernel
theorem dL_law_833 : decode cL_law 833 = .ok (.invokestatic 134, 3) := by decide +kernel
theorem dL_law_836 : decode cL_law 836 = .ok (.istore 6, 2) := by decide +kernel
theorem dL_law_838 : decode cL_law 838 = .ok (.aload_n 2, 1) := by decide +kernel
theorem dL_law_839 : decode cL_law 839 = .ok (.aload_n 0, 1) := by decide +kernel
theorem dL_law_840 : decode cL_law 840 = .ok (.iload 5, 2) := by decide +kernel
theorem dL_law_842 : decode cL_law 842 = .ok (.iconst 1, 1) := by decide +kernel
theorem dL_law_843 : decode cL_law 843 = .ok (.iadd, 1) := by decide +kernel
theorem dL_law_844 : decode cL_law 844 = .ok (.iaload, 1) := by decide +kernel
theorem dL_law_845 : decode cL_law 845 = .ok (.invokevirtual 136, 3) := by decide +kernel
theorem dL_law_848 : decode cL_law 848 = .ok (.istore 7, 2) := by decide +kernel
theorem dL_law_850 : decode cL_law 850 = .ok (.aload_n 2, 1) := by decide +kernel
theorem dL_law_851 : decode cL_law 851 = .ok (.invokevirtual 92, 3) := by decide +kernel
theorem dL_law_854 : decode cL_law 854 = .ok (.iload 6, 2) := by decide +kernel
theorem dL_law_856 : decode cL_law 856 = .ok (.if_icmp .eq 5, 3) := by decide +kernel
theorem dL_law_859 : decode cL_law 859 = .ok (.iconst 0, 1) := by decide +kernel
theorem dL_law_860 : decode cL_law 860 = .ok (.ireturn, 1) := by decide +kernel
theorem dL_law_861 : decode cL_law 861 = .ok (.iload 6, 2) := by decide +kernel
theorem dL_law_863 : decode cL_law 863 = .ok (.ifCond .ne 15, 3) := by decide +kernel
theorem dL_law_866 : decode cL_law 866 = .ok (.aload_n 3, 1) := by decide +kernel
theorem dL_law_867 : decode cL_law 867 = .ok (.iconst 0, 1) := by decide +kernel
theorem dL_law_868 : decode cL_law 868 = .ok (.laload, 1) := by decide +kernel
theorem dL_law_869 : decode cL_law 869 = .ok (.iload 7, 2) := by decide +kernel
theorem dL_law_871 : decode cL_law 871 = .ok (.i2l, 1) := by decide +kernel
theorem dL_law_872 : decode cL_law 872 = .ok (.lcmp, 1) := by decide +kernel
theorem dL_law_873 : decode cL_law 873 = .ok (.ifCond .eq 5, 3) := by decide +kernel
theorem dL_law_876 : decode cL_law 876 = .ok (.iconst 0, 1) := by decide +kernel
theorem dL_law_877 : decode cL_law 877 = .ok (.ireturn, 1) := by decide +kernel
theorem dL_law_878 : decode cL_law 878 = .ok (.goto 597, 3) := by decide +kernel
theorem dL_law_881 : decode cL_law 881 = .ok (.aload_n 1, 1) := by decide +kernel
theorem dL_law_882 : decode cL_law 882 = .ok (.aload_n 0, 1) := by decide +kernel
theorem dL_law_883 : decode cL_law 883 = .ok (.iload 5, 2) := by decide +kernel
theorem dL_law_885 : decode cL_law 885 = .ok (.iconst 1, 1) := by decide +kernel
theorem dL_law_886 : decode cL_law 886 = .ok (.iadd, 1) := by decide +kernel
theorem dL_law_887 : decode cL_law 887 = .ok (.iaload, 1) := by decide +kernel
theorem dL_law_888 : decode cL_law 888 = .ok (.aload 4, 2) := by decide +kernel
theorem dL_law_890 : decode cL_law 890 = .ok (.invokestatic 137, 3) := by decide +kernel
theorem dL_law_893 : decode cL_law 893 = .ok (.istore 6, 2) := by decide +kernel
theorem dL_law_895 : decode cL_law 895 = .ok (.aload_n 2, 1) := by decide +kernel
theorem dL_law_896 : decode cL_law 896 = .ok (.aload_n 0, 1) := by decide +kernel
theorem dL_law_897 : decode cL_law 897 = .ok (.iload 5, 2) := by decide +kernel
theorem dL_law_899 : decode cL_law 899 = .ok (.iconst 1, 1) := by decide +kernel
theorem dL_law_900 : decode cL_law 900 = .ok (.iadd, 1) := by decide +kernel
theorem dL_law_901 : decode cL_law 901 = .ok (.iaload, 1) := by decide +kernel
theorem dL_law_902 : decode cL_law 902 = .ok (.invokevirtual 140, 3) := by decide +kernel
theorem dL_law_905 : decode cL_law 905 = .ok (.dstore 7, 2) := by decide +kernel
theorem dL_law_907 : decode cL_law 907 = .ok (.aload_n 2, 1) := by decide +kernel
theorem dL_law_908 : decode cL_law 908 = .ok (.invokevirtual 92, 3) := by decide +kernel
theorem dL_law_911 : decode cL_law 911 = .ok (.iload 6, 2) := by decide +kernel
theorem dL_law_913 : decode cL_law 913 = .ok (.if_icmp .eq 5, 3) := by decide +kernel
theorem dL_law_916 : decode cL_law 916 = .ok (.iconst 0, 1) := by decide +kernel
theorem dL_law_917 : decode cL_law 917 = .ok (.ireturn, 1) := by decide +kernel
theorem dL_law_918 : decode cL_law 918 = .ok (.iload 6, 2) := by decide +kernel
theorem dL_law_920 : decode cL_law 920 = .ok (.ifCond .ne 35, 3) := by decide +kernel
theorem dL_law_923 : decode cL_law 923 = .ok (.aload 4, 2) := by decide +kernel
theorem dL_law_925 : decode cL_law 925 = .ok (.iconst 0, 1) := by decide +kernel
theorem dL_law_926 : decode cL_law 926 = .ok (.daload, 1) := by decide +kernel
theorem dL_law_927 : decode cL_law 927 = .ok (.dload 7, 2) := by decide +kernel
theorem dL_law_929 : decode cL_law 929 = .ok (.dcmp .l, 1) := by decide +kernel
theorem dL_law_930 : decode cL_law 930 = .ok (.ifCond .eq 25, 3) := by decide +kernel
theorem dL_law_933 : decode cL_law 933 = .ok (.aload 4, 2) := by decide +kernel
theorem dL_law_935 : decode cL_law 935 = .ok (.iconst 0, 1) := by decide +kernel
theorem dL_law_936 : decode cL_law 936 = .ok (.daload, 1) := by decide +kernel
theorem dL_law_937 : decode cL_law 937 = .ok (.aload 4, 2) := by decide +kernel
theorem dL_law_939 : decode cL_law 939 = .ok (.iconst 0, 1) := by decide +kernel
theorem dL_law_940 : decode cL_law 940 = .ok (.daload, 1) := by decide +kernel
theorem dL_law_941 : decode cL_law 941 = .ok (.dcmp .l, 1) := by decide +kernel
theorem dL_law_942 : decode cL_law 942 = .ok (.ifCond .eq 11, 3) := by decide +kernel
theorem dL_law_945 : decode cL_law 945 = .ok (.dload 7, 2) := by decide +kernel
theorem dL_law_947 : decode cL_law 947 = .ok (.dload 7, 2) := by decide +kernel
theorem dL_law_949 : decode cL_law 949 = .ok (.dcmp .l, 1) := by decide +kernel
theorem dL_law_950 : decode cL_law 950 = .ok (.ifCond .ne 5, 3) := by decide +kernel
theorem dL_law_953 : decode cL_law 953 = .ok (.iconst 0, 1) := by decide +kernel
theorem dL_law_954 : decode cL_law 954 = .ok (.ireturn, 1) := by decide +kernel
theorem dL_law_955 : decode cL_law 955 = .ok (.goto 520, 3) := by decide +kernel
theorem dL_law_958 : decode cL_law 958 = .ok (.aload_n 1, 1) := by decide +kernel
theorem dL_law_959 : decode cL_law 959 = .ok (.aload_n 0, 1) := by decide +kernel
theorem dL_law_960 : decode cL_law 960 = .ok (.iload 5, 2) := by decide +kernel
theorem dL_law_962 : decode cL_law 962 = .ok (.iconst 1, 1) := by decide +kernel
theorem dL_law_963 : decode cL_law 963 = .ok (.iadd, 1) := by decide +kernel
theorem dL_law_964 : decode cL_law 964 = .ok (.iaload, 1) := by decide +kernel
theorem dL_law_965 : decode cL_law 965 = .ok (.aload_n 0, 1) := by decide +kernel
theorem dL_law_966 : decode cL_law 966 = .ok (.iload 5, 2) := by decide +kernel
theorem dL_law_968 : decode cL_law 968 = .ok (.iconst 2, 1) := by decide +kernel
theorem dL_law_969 : decode cL_law 969 = .ok (.iadd, 1) := by decide +kernel
theorem dL_law_970 : decode cL_law 970 = .ok (.iaload, 1) := by decide +kernel
theorem dL_law_971 : decode cL_law 971 = .ok (.aload_n 3, 1) := by decide +kernel
theorem dL_law_972 : decode cL_law 972 = .ok (.invokestatic 141, 3) := by decide +kernel
theorem dL_law_975 : decode cL_law 975 = .ok (.istore 6, 2) := by decide +kernel
theorem dL_law_977 : decode cL_law 977 = .ok (.aload_n 2, 1) := by decide +kernel
theorem dL_law_978 : decode cL_law 978 = .ok (.aload_n 0, 1) := by decide +kernel
theorem dL_law_979 : decode cL_law 979 = .ok (.iload 5, 2) := by decide +kernel
theorem dL_law_981 : decode cL_law 981 = .ok (.iconst 1, 1) := by decide +kernel
theorem dL_law_982 : decode cL_law 982 = .ok (.iadd, 1) := by decide +kernel
theorem dL_law_983 : decode cL_law 983 = .ok (.iaload, 1) := by decide +kernel
theorem dL_law_984 : decode cL_law 984 = .ok (.aload_n 0, 1) := by decide +kernel
theorem dL_law_985 : decode cL_law 985 = .ok (.iload 5, 2) := by decide +kernel
theorem dL_law_987 : decode cL_law 987 = .ok (.iconst 2, 1) := by decide +kernel
theorem dL_law_988 : decode cL_law 988 = .ok (.iadd, 1) := by decide +kernel
theorem dL_law_989 : decode cL_law 989 = .ok (.iaload, 1) := by decide +kernel
theorem dL_law_990 : decode cL_law 990 = .ok (.invokevirtual 143, 3) := by decide +kernel
theorem dL_law_993 : decode cL_law 993 = .ok (.lstore 7, 2) := by decide +kernel
theorem dL_law_995 : decode cL_law 995 = .ok (.aload_n 2, 1) := by decide +kernel
theorem dL_law_996 : decode cL_law 996 = .ok (.invokevirtual 92, 3) := by decide +kernel
theorem dL_law_999 : decode cL_law 999 = .ok (.iload 6, 2) := by decide +kernel
theorem dL_law_1001 : decode cL_law 1001 = .ok (.if_icmp .eq 5, 3) := by decide +kernel
theorem dL_law_1004 : decode cL_law 1004 = .ok (.iconst 0, 1) := by decide +kernel
theorem dL_law_1005 : decode cL_law 1005 = .ok (.ireturn, 1) := by decide +kernel
theorem dL_law_1006 : decode cL_law 1006 = .ok (.iload 6, 2) := by decide +kernel
theorem dL_law_1008 : decode cL_law 1008 = .ok (.ifCond .ne 14, 3) := by decide +kernel
theorem dL_law_1011 : decode cL_law 1011 = .ok (.aload_n 3, 1) := by decide +kernel
theorem dL_law_1012 : decode cL_law 1012 = .ok (.iconst 0, 1) := by decide +kernel
theorem dL_law_1013 : decode cL_law 1013 = .ok (.laload, 1) := by decide +kernel
theorem dL_law_1014 : decode cL_law 1014 = .ok (.lload 7, 2) := by decide +kernel
theorem dL_law_1016 : decode cL_law 1016 = .ok (.lcmp, 1) := by decide +kernel
theorem dL_law_1017 : decode cL_law 1017 = .ok (.ifCond .eq 5, 3) := by decide +kernel
theorem dL_law_1020 : decode cL_law 1020 = .ok (.iconst 0, 1) := by decide +kernel
theorem dL_law_1021 : decode cL_law 1021 = .ok (.ireturn, 1) := by decide +kernel
theorem dL_law_1022 : decode cL_law 1022 = .ok (.goto 453, 3) := by decide +kernel
theorem dL_law_1025 : decode cL_law 1025 = .ok (.aload_n 1, 1) := by decide +kernel
theorem dL_law_1026 : decode cL_law 1026 = .ok (.aload_n 0, 1) := by decide +kernel
theorem dL_law_1027 : decode cL_law 1027 = .ok (.iload 5, 2) := by decide +kernel
theorem dL_law_1029 : decode cL_law 1029 = .ok (.iconst 1, 1) := by decide +kernel
theorem dL_law_1030 : decode cL_law 1030 = .ok (.iadd, 1) := by decide +kernel
theorem dL_law_1031 : decode cL_law 1031 = .ok (.iaload, 1) := by decide +kernel
theorem dL_law_1032 : decode cL_law 1032 = .ok (.aload_n 3, 1) := by decide +kernel
theorem dL_law_1033 : decode cL_law 1033 = .ok (.invokestatic 144, 3) := by decide +kernel
theorem dL_law_1036 : decode cL_law 1036 = .ok (.istore 6, 2) := by decide +kernel
theorem dL_law_1038 : decode cL_law 1038 = .ok (.aload_n 2, 1) := by decide +kernel
theorem dL_law_1039 : decode cL_law 1039 = .ok (.aload_n 0, 1) := by decide +kernel
theorem dL_law_1040 : decode cL_law 1040 = .ok (.iload 5, 2) := by decide +kernel
theorem dL_law_1042 : decode cL_law 1042 = .ok (.iconst 1, 1) := by decide +kernel
theorem dL_law_1043 : decode cL_law 1043 = .ok (.iadd, 1) := by decide +kernel
theorem dL_law_1044 : decode cL_law 1044 = .ok (.iaload, 1) := by decide +kernel
theorem dL_law_1045 : decode cL_law 1045 = .ok (.invokevirtual 146, 3) := by decide +kernel
theorem dL_law_1048 : decode cL_law 1048 = .ok (.istore 7, 2) := by decide +kernel
theorem dL_law_1050 : decode cL_law 1050 = .ok (.aload_n 2, 1) := by decide +kernel
theorem dL_law_1051 : decode cL_law 1051 = .ok (.invokevirtual 92, 3) := by decide +kernel
theorem dL_law_1054 : decode cL_law 1054 = .ok (.iload 6, 2) := by decide +kernel
theorem dL_law_1056 : decode cL_law 1056 = .ok (.if_icmp .eq 5, 3) := by decide +kernel
theorem dL_law_1059 : decode cL_law 1059 = .ok (.iconst 0, 1) := by decide +kernel
theorem dL_law_1060 : decode cL_law 1060 = .ok (.ireturn, 1) := by decide +kernel
theorem dL_law_1061 : decode cL_law 1061 = .ok (.iload 6, 2) := by decide +kernel
theorem dL_law_1063 : decode cL_law 1063 = .ok (.ifCond .ne 15, 3) := by decide +kernel
theorem dL_law_1066 : decode cL_law 1066 = .ok (.aload_n 3, 1) := by decide +kernel
theorem dL_law_1067 : decode cL_law 1067 = .ok (.iconst 0, 1) := by decide +kernel
theorem dL_law_1068 : decode cL_law 1068 = .ok (.laload, 1) := by decide +kernel
theorem dL_law_1069 : decode cL_law 1069 = .ok (.iload 7, 2) := by decide +kernel
theorem dL_law_1071 : decode cL_law 1071 = .ok (.i2l, 1) := by decide +kernel
theorem dL_law_1072 : decode cL_law 1072 = .ok (.lcmp, 1) := by decide +kernel
theorem dL_law_1073 : decode cL_law 1073 = .ok (.ifCond .eq 5, 3) := by decide +kernel
theorem dL_law_1076 : decode cL_law 1076 = .ok (.iconst 0, 1) := by decide +kernel
theorem dL_law_1077 : decode cL_law 1077 = .ok (.ireturn, 1) := by decide +kernel
theorem dL_law_1078 : decode cL_law 1078 = .ok (.goto 397, 3) := by decide +kernel
theorem dL_law_1081 : decode cL_law 1081 = .ok (.aload_n 1, 1) := by decide +kernel
theorem dL_law_1082 : decode cL_law 1082 = .ok (.aload_n 0, 1) := by decide +kernel
theorem dL_law_1083 : decode cL_law 1083 = .ok (.iload 5, 2) := by decide +kernel
theorem dL_law_1085 : decode cL_law 1085 = .ok (.iconst 1, 1) := by decide +kernel
theorem dL_law_1086 : decode cL_law 1086 = .ok (.iadd, 1) := by decide +kernel
theorem dL_law_1087 : decode cL_law 1087 = .ok (.iaload, 1) := by decide +kernel
theorem dL_law_1088 : decode cL_law 1088 = .ok (.aload_n 3, 1) := by decide +kernel
theorem dL_law_1089 : decode cL_law 1089 = .ok (.invokestatic 147, 3) := by decide +kernel
theorem dL_law_1092 : decode cL_law 1092 = .ok (.istore 6, 2) := by decide +kernel
theorem dL_law_1094 : decode cL_law 1094 = .ok (.aload_n 2, 1) := by decide +kernel
theorem dL_law_1095 : decode cL_law 1095 = .ok (.aload_n 0, 1) := by decide +kernel
theorem dL_law_1096 : decode cL_law 1096 = .ok (.iload 5, 2) := by decide +kernel
theorem dL_law_1098 : decode cL_law 1098 = .ok (.iconst 1, 1) := by decide +kernel
theorem dL_law_1099 : decode cL_law 1099 = .ok (.iadd, 1) := by decide +kernel
theorem dL_law_1100 : decode cL_law 1100 = .ok (.iaload, 1) := by decide +kernel
theorem dL_law_1101 : decode cL_law 1101 = .ok (.invokevirtual 149, 3) := by decide +kernel
theorem dL_law_1104 : decode cL_law 1104 = .ok (.istore 7, 2) := by decide +kernel
theorem dL_law_1106 : decode cL_law 1106 = .ok (.aload_n 2, 1) := by decide +kernel
theorem dL_law_1107 : decode cL_law 1107 = .ok (.invokevirtual 92, 3) := by decide +kernel
theorem dL_law_1110 : decode cL_law 1110 = .ok (.iload 6, 2) := by decide +kernel
theorem dL_law_1112 : decode cL_law 1112 = .ok (.if_icmp .eq 5, 3) := by decide +kernel
theorem dL_law_1115 : decode cL_law 1115 = .ok (.iconst 0, 1) := by decide +kernel
theorem dL_law_1116 : decode cL_law 1116 = .ok (.ireturn, 1) := by decide +kernel
theorem dL_law_1117 : decode cL_law 1117 = .ok (.iload 6, 2) := by decide +kernel
theorem dL_law_1119 : decode cL_law 1119 = .ok (.ifCond .ne 15, 3) := by decide +kernel
theorem dL_law_1122 : decode cL_law 1122 = .ok (.aload_n 3, 1) := by decide +kernel
theorem dL_law_1123 : decode cL_law 1123 = .ok (.iconst 0, 1) := by decide +kernel
theorem dL_law_1124 : decode cL_law 1124 = .ok (.laload, 1) := by decide +kernel
theorem dL_law_1125 : decode cL_law 1125 = .ok (.iload 7, 2) := by decide +kernel
theorem dL_law_1127 : decode cL_law 1127 = .ok (.i2l, 1) := by decide +kernel
theorem dL_law_1128 : decode cL_law 1128 = .ok (.lcmp, 1) := by decide +kernel
theorem dL_law_1129 : decode cL_law 1129 = .ok (.ifCond .eq 5, 3) := by decide +kernel
theorem dL_law_1132 : decode cL_law 1132 = .ok (.iconst 0, 1) := by decide +kernel
theorem dL_law_1133 : decode cL_law 1133 = .ok (.ireturn, 1) := by decide +kernel
theorem dL_law_1134 : decode cL_law 1134 = .ok (.goto 341, 3) := by decide +kernel
theorem dL_law_1137 : decode cL_law 1137 = .ok (.aload_n 1, 1) := by decide +kernel
theorem dL_law_1138 : decode cL_law 1138 = .ok (.aload_n 0, 1) := by decide +kernel
theorem dL_law_1139 : decode cL_law 1139 = .ok (.iload 5, 2) := by decide +kernel
theorem dL_law_1141 : decode cL_law 1141 = .ok (.iconst 1, 1) := by decide +kernel
theorem dL_law_1142 : decode cL_law 1142 = .ok (.iadd, 1) := by decide +kernel
theorem dL_law_1143 : decode cL_law 1143 = .ok (.iaload, 1) := by decide +kernel
theorem dL_law_1144 : decode cL_law 1144 = .ok (.aload_n 3, 1) := by decide +kernel
theorem dL_law_1145 : decode cL_law 1145 = .ok (.invokestatic 150, 3) := by decide +kernel
theorem dL_law_1148 : decode cL_law 1148 = .ok (.istore 6, 2) := by decide +kernel
theorem dL_law_1150 : decode cL_law 1150 = .ok (.aload_n 2, 1) := by decide +kernel
theorem dL_law_1151 : decode cL_law 1151 = .ok (.aload_n 0, 1) := by decide +kernel
theorem dL_law_1152 : decode cL_law 1152 = .ok (.iload 5, 2) := by decide +kernel
theorem dL_law_1154 : decode cL_law 1154 = .ok (.iconst 1, 1) := by decide +kernel
theorem dL_law_1155 : decode cL_law 1155 = .ok (.iadd, 1) := by decide +kernel
theorem dL_law_1156 : decode cL_law 1156 = .ok (.iaload, 1) := by decide +kernel
theorem dL_law_1157 : decode cL_law 1157 = .ok (.invokevirtual 152, 3) := by decide +kernel
theorem dL_law_1160 : decode cL_law 1160 = .ok (.istore 7, 2) := by decide +kernel
theorem dL_law_1162 : decode cL_law 1162 = .ok (.aload_n 2, 1) := by decide +kernel
theorem dL_law_1163 : decode cL_law 1163 = .ok (.invokevirtual 92, 3) := by decide +kernel
theorem dL_law_1166 : decode cL_law 1166 = .ok (.iload 6, 2) := by decide +kernel
theorem dL_law_1168 : decode cL_law 1168 = .ok (.if_icmp .eq 5, 3) := by decide +kernel
theorem dL_law_1171 : decode cL_law 1171 = .ok (.iconst 0, 1) := by decide +kernel
theorem dL_law_1172 : decode cL_law 1172 = .ok (.ireturn, 1) := by decide +kernel
theorem dL_law_1173 : decode cL_law 1173 = .ok (.iload 6, 2) := by decide +kernel
theorem dL_law_1175 : decode cL_law 1175 = .ok (.ifCond .ne 15, 3) := by decide +kernel
theorem dL_law_1178 : decode cL_law 1178 = .ok (.aload_n 3, 1) := by decide +kernel
theorem dL_law_1179 : decode cL_law 1179 = .ok (.iconst 0, 1) := by decide +kernel
theorem dL_law_1180 : decode cL_law 1180 = .ok (.laload, 1) := by decide +kernel
theorem dL_law_1181 : decode cL_law 1181 = .ok (.iload 7, 2) := by decide +kernel
theorem dL_law_1183 : decode cL_law 1183 = .ok (.i2l, 1) := by decide +kernel
theorem dL_law_1184 : decode cL_law 1184 = .ok (.lcmp, 1) := by decide +kernel
theorem dL_law_1185 : decode cL_law 1185 = .ok (.ifCond .eq 5, 3) := by decide +kernel
theorem dL_law_1188 : decode cL_law 1188 = .ok (.iconst 0, 1) := by decide +kernel
theorem dL_law_1189 : decode cL_law 1189 = .ok (.ireturn, 1) := by decide +kernel
theorem dL_law_1190 : decode cL_law 1190 = .ok (.goto 285, 3) := by decide +kernel
theorem dL_law_1193 : decode cL_law 1193 = .ok (.aload_n 1, 1) := by decide +kernel
theorem dL_law_1194 : decode cL_law 1194 = .ok (.invokevirtual 153, 3) := by decide +kernel
theorem dL_law_1197 : decode cL_law 1197 = .ok (.aload_n 2, 1) := by decide +kernel
theorem dL_law_1198 : decode cL_law 1198 = .ok (.invokevirtual 156, 3) := by decide +kernel
theorem dL_law_1201 : decode cL_law 1201 = .ok (.if_icmp .eq 274, 3) := by decide +kernel
theorem dL_law_1204 : decode cL_law 1204 = .ok (.iconst 0, 1) := by decide +kernel
theorem dL_law_1205 : decode cL_law 1205 = .ok (.ireturn, 1) := by decide +kernel
theorem dL_law_1206 : decode cL_law 1206 = .ok (.aload_n 1, 1) := by decide +kernel
theorem dL_law_1207 : decode cL_law 1207 = .ok (.aload_n 0, 1) := by decide +kernel
theorem dL_law_1208 : decode cL_law 1208 = .ok (.iload 5, 2) := by decide +kernel
theorem dL_law_1210 : decode cL_law 1210 = .ok (.iconst 1, 1) := by decide +kernel
theorem dL_law_1211 : decode cL_law 1211 = .ok (.iadd, 1) := by decide +kernel
theorem dL_law_1212 : decode cL_law 1212 = .ok (.iaload, 1) := by decide +kernel
theorem dL_law_1213 : decode cL_law 1213 = .ok (.aload_n 3, 1) := by decide +kernel
theorem dL_law_1214 : decode cL_law 1214 = .ok (.invokestatic 157, 3) := by decide +kernel
theorem dL_law_1217 : decode cL_law 1217 = .ok (.istore 6, 2) := by decide +kernel
theorem dL_law_1219 : decode cL_law 1219 = .ok (.aload_n 2, 1) := by decide +kernel
theorem dL_law_1220 : decode cL_law 1220 = .ok (.aload_n 0, 1) := by decide +kernel
theorem dL_law_1221 : decode cL_law 1221 = .ok (.iload 5, 2) := by decide +kernel
theorem dL_law_1223 : decode cL_law 1223 = .ok (.iconst 1, 1) := by decide +kernel
theorem dL_law_1224 : decode cL_law 1224 = .ok (.iadd, 1) := by decide +kernel
theorem dL_law_1225 : decode cL_law 1225 = .ok (.iaload, 1) := by decide +kernel
theorem dL_law_1226 : decode cL_law 1226 = .ok (.invokevirtual 159, 3) := by decide +kernel
theorem dL_law_1229 : decode cL_law 1229 = .ok (.istore 7, 2) := by decide +kernel
theorem dL_law_1231 : decode cL_law 1231 = .ok (.aload_n 2, 1) := by decide +kernel
theorem dL_law_1232 : decode cL_law 1232 = .ok (.invokevirtual 92, 3) := by decide +kernel
theorem dL_law_1235 : decode cL_law 1235 = .ok (.iload 6, 2) := by decide +kernel
theorem dL_law_1237 : decode cL_law 1237 = .ok (.if_icmp .eq 5, 3) := by decide +kernel
theorem dL_law_1240 : decode cL_law 1240 = .ok (.iconst 0, 1) := by decide +kernel
theorem dL_law_1241 : decode cL_law 1241 = .ok (.ireturn, 1) := by decide +kernel
theorem dL_law_1242 : decode cL_law 1242 = .ok (.iload 6, 2) := by decide +kernel
theorem dL_law_1244 : decode cL_law 1244 = .ok (.ifCond .ne 22, 3) := by decide +kernel
theorem dL_law_1247 : decode cL_law 1247 = .ok (.aload_n 3, 1) := by decide +kernel
theorem dL_law_1248 : decode cL_law 1248 = .ok (.iconst 0, 1) := by decide +kernel
theorem dL_law_1249 : decode cL_law 1249 = .ok (.laload, 1) := by decide +kernel
theorem dL_law_1250 : decode cL_law 1250 = .ok (.iload 7, 2) := by decide +kernel
theorem dL_law_1252 : decode cL_law 1252 = .ok (.ifCond .eq 7, 3) := by decide +kernel
theorem dL_law_1255 : decode cL_law 1255 = .ok (.lconst 1, 1) := by decide +kernel
theorem dL_law_1256 : decode cL_law 1256 = .ok (.goto 4, 3) := by decide +kernel
theorem dL_law_1259 : decode cL_law 1259 = .ok (.lconst 0, 1) := by decide +kernel
theorem dL_law_1260 : decode cL_law 1260 = .ok (.lcmp, 1) := by decide +kernel
theorem dL_law_1261 : decode cL_law 1261 = .ok (.ifCond .eq 5, 3) := by decide +kernel
theorem dL_law_1264 : decode cL_law 1264 = .ok (.iconst 0, 1) := by decide +kernel
theorem dL_law_1265 : decode cL_law 1265 = .ok (.ireturn, 1) := by decide +kernel
theorem dL_law_1266 : decode cL_law 1266 = .ok (.goto 209, 3) := by decide +kernel
theorem dL_law_1269 : decode cL_law 1269 = .ok (.aload_n 1, 1) := by decide +kernel
theorem dL_law_1270 : decode cL_law 1270 = .ok (.invokevirtual 160, 3) := by decide +kernel
theorem dL_law_1273 : decode cL_law 1273 = .ok (.aload_n 2, 1) := by decide +kernel
theorem dL_law_1274 : decode cL_law 1274 = .ok (.invokevirtual 163, 3) := by decide +kernel
theorem dL_law_1277 : decode cL_law 1277 = .ok (.if_icmp .eq 198, 3) := by decide +kernel
theorem dL_law_1280 : decode cL_law 1280 = .ok (.iconst 0, 1) := by decide +kernel
theorem dL_law_1281 : decode cL_law 1281 = .ok (.ireturn, 1) := by decide +kernel
theorem dL_law_1282 : decode cL_law 1282 = .ok (.aload_n 1, 1) := by decide +kernel
theorem dL_law_1283 : decode cL_law 1283 = .ok (.invokevirtual 164, 3) := by decide +kernel
theorem dL_law_1286 : decode cL_law 1286 = .ok (.aload_n 2, 1) := by decide +kernel
theorem dL_law_1287 : decode cL_law 1287 = .ok (.invokevirtual 167, 3) := by decide +kernel
theorem dL_law_1290 : decode cL_law 1290 = .ok (.if_icmp .eq 185, 3) := by decide +kernel
theorem dL_law_1293 : decode cL_law 1293 = .ok (.iconst 0, 1) := by decide +kernel
theorem dL_law_1294 : decode cL_law 1294 = .ok (.ireturn, 1) := by decide +kernel
theorem dL_law_1295 : decode cL_law 1295 = .ok (.aload_n 1, 1) := by decide +kernel
theorem dL_law_1296 : decode cL_law 1296 = .ok (.aload_n 0, 1) := by decide +kernel
theorem dL_law_1297 : decode cL_law 1297 = .ok (.iload 5, 2) := by decide +kernel
theorem dL_law_1299 : decode cL_law 1299 = .ok (.iconst 1, 1) := by decide +kernel
theorem dL_law_1300 : decode cL_law 1300 = .ok (.iadd, 1) := by decide +kernel
theorem dL_law_1301 : decode cL_law 1301 = .ok (.iaload, 1) := by decide +kernel
theorem dL_law_1302 : decode cL_law 1302 = .ok (.aload_n 3, 1) := by decide +kernel
theorem dL_law_1303 : decode cL_law 1303 = .ok (.invokestatic 168, 3) := by decide +kernel
theorem dL_law_1306 : decode cL_law 1306 = .ok (.istore 6, 2) := by decide +kernel
theorem dL_law_1308 : decode cL_law 1308 = .ok (.aload_n 2, 1) := by decide +kernel
theorem dL_law_1309 : decode cL_law 1309 = .ok (.aload_n 0, 1) := by decide +kernel
theorem dL_law_1310 : decode cL_law 1310 = .ok (.iload 5, 2) := by decide +kernel
theorem dL_law_1312 : decode cL_law 1312 = .ok (.iconst 1, 1) := by decide +kernel
theorem dL_law_1313 : decode cL_law 1313 = .ok (.iadd, 1) := by decide +kernel
theorem dL_law_1314 : decode cL_law 1314 = .ok (.iaload, 1) := by decide +kernel
theorem dL_law_1315 : decode cL_law 1315 = .ok (.invokevirtual 170, 3) := by decide +kernel
theorem dL_law_1318 : decode cL_law 1318 = .ok (.istore 7, 2) := by decide +kernel
theorem dL_law_1320 : decode cL_law 1320 = .ok (.aload_n 2, 1) := by decide +kernel
theorem dL_law_1321 : decode cL_law 1321 = .ok (.invokevirtual 92, 3) := by decide +kernel
theorem dL_law_1324 : decode cL_law 1324 = .ok (.iload 6, 2) := by decide +kernel
theorem dL_law_1326 : decode cL_law 1326 = .ok (.if_icmp .eq 5, 3) := by decide +kernel
theorem dL_law_1329 : decode cL_law 1329 = .ok (.iconst 0, 1) := by decide +kernel
theorem dL_law_1330 : decode cL_law 1330 = .ok (.ireturn, 1) := by decide +kernel
theorem dL_law_1331 : decode cL_law 1331 = .ok (.iload 6, 2) := by decide +kernel
theorem dL_law_1333 : decode cL_law 1333 = .ok (.ifCond .ne 15, 3) := by decide +kernel
theorem dL_law_1336 : decode cL_law 1336 = .ok (.aload_n 3, 1) := by decide +kernel
theorem dL_law_1337 : decode cL_law 1337 = .ok (.iconst 0, 1) := by decide +kernel
theorem dL_law_1338 : decode cL_law 1338 = .ok (.laload, 1) := by decide +kernel
theorem dL_law_1339 : decode cL_law 1339 = .ok (.iload 7, 2) := by decide +kernel
theorem dL_law_1341 : decode cL_law 1341 = .ok (.i2l, 1) := by decide +kernel
theorem dL_law_1342 : decode cL_law 1342 = .ok (.lcmp, 1) := by decide +kernel
theorem dL_law_1343 : decode cL_law 1343 = .ok (.ifCond .eq 5, 3) := by decide +kernel
theorem dL_law_1346 : decode cL_law 1346 = .ok (.iconst 0, 1) := by decide +kernel
theorem dL_law_1347 : decode cL_law 1347 = .ok (.ireturn, 1) := by decide +kernel
theorem dL_law_1348 : decode cL_law 1348 = .ok (.goto 127, 3) := by decide +kernel
theorem dL_law_1351 : decode cL_law 1351 = .ok (.aload_n 1, 1) := by decide +kernel
theorem dL_law_1352 : decode cL_law 1352 = .ok (.aload_n 0, 1) := by decide +kernel
theorem dL_law_1353 : decode cL_law 1353 = .ok (.iload 5, 2) := by decide +kernel
theorem dL_law_1355 : decode cL_law 1355 = .ok (.iconst 1, 1) := by decide +kernel
theorem dL_law_1356 : decode cL_law 1356 = .ok (.iadd, 1) := by decide +kernel
theorem dL_law_1357 : decode cL_law 1357 = .ok (.iaload, 1) := by decide +kernel
theorem dL_law_1358 : decode cL_law 1358 = .ok (.aload_n 0, 1) := by decide +kernel
theorem dL_law_1359 : decode cL_law 1359 = .ok (.iload 5, 2) := by decide +kernel
theorem dL_law_1361 : decode cL_law 1361 = .ok (.iconst 2, 1) := by decide +kernel
theorem dL_law_1362 : decode cL_law 1362 = .ok (.iadd, 1) := by decide +kernel
theorem dL_law_1363 : decode cL_law 1363 = .ok (.iaload, 1) := by decide +kernel
theorem dL_law_1364 : decode cL_law 1364 = .ok (.aload_n 3, 1) := by decide +kernel
theorem dL_law_1365 : decode cL_law 1365 = .ok (.invokestatic 171, 3) := by decide +kernel
theorem dL_law_1368 : decode cL_law 1368 = .ok (.istore 6, 2) := by decide +kernel
theorem dL_law_1370 : decode cL_law 1370 = .ok (.aload_n 2, 1) := by decide +kernel
theorem dL_law_1371 : decode cL_law 1371 = .ok (.aload_n 0, 1) := by decide +kernel
theorem dL_law_1372 : decode cL_law 1372 = .ok (.iload 5, 2) := by decide +kernel
theorem dL_law_1374 : decode cL_law 1374 = .ok (.iconst 1, 1) := by decide +kernel
theorem dL_law_1375 : decode cL_law 1375 = .ok (.iadd, 1) := by decide +kernel
theorem dL_law_1376 : decode cL_law 1376 = .ok (.iaload, 1) := by decide +kernel
theorem dL_law_1377 : decode cL_law 1377 = .ok (.aload_n 0, 1) := by decide +kernel
theorem dL_law_1378 : decode cL_law 1378 = .ok (.iload 5, 2) := by decide +kernel
theorem dL_law_1380 : decode cL_law 1380 = .ok (.iconst 2, 1) := by decide +kernel
theorem dL_law_1381 : decode cL_law 1381 = .ok (.iadd, 1) := by decide +kernel
theorem dL_law_1382 : decode cL_law 1382 = .ok (.iaload, 1) := by decide +kernel
theorem dL_law_1383 : decode cL_law 1383 = .ok (.invokevirtual 173, 3) := by decide +kernel
theorem dL_law_1386 : decode cL_law 1386 = .ok (.istore 7, 2) := by decide +kernel
theorem dL_law_1388 : decode cL_law 1388 = .ok (.aload_n 2, 1) := by decide +kernel
theorem dL_law_1389 : decode cL_law 1389 = .ok (.invokevirtual 92, 3) := by decide +kernel
theorem dL_law_1392 : decode cL_law 1392 = .ok (.iload 6, 2) := by decide +kernel
theorem dL_law_1394 : decode cL_law 1394 = .ok (.if_icmp .eq 5, 3) := by decide +kernel
theorem dL_law_1397 : decode cL_law 1397 = .ok (.iconst 0, 1) := by decide +kernel
theorem dL_law_1398 : decode cL_law 1398 = .ok (.ireturn, 1) := by decide +kernel
theorem dL_law_1399 : decode cL_law 1399 = .ok (.iload 6, 2) := by decide +kernel
theorem dL_law_1401 : decode cL_law 1401 = .ok (.ifCond .ne 15, 3) := by decide +kernel
theorem dL_law_1404 : decode cL_law 1404 = .ok (.aload_n 3, 1) := by decide +kernel
theorem dL_law_1405 : decode cL_law 1405 = .ok (.iconst 0, 1) := by decide +kernel
theorem dL_law_1406 : decode cL_law 1406 = .ok (.laload, 1) := by decide +kernel
theorem dL_law_1407 : decode cL_law 1407 = .ok (.iload 7, 2) := by decide +kernel
theorem dL_law_1409 : decode cL_law 1409 = .ok (.i2l, 1) := by decide +kernel
theorem dL_law_1410 : decode cL_law 1410 = .ok (.lcmp, 1) := by decide +kernel
theorem dL_law_1411 : decode cL_law 1411 = .ok (.ifCond .eq 5, 3) := by decide +kernel
theorem dL_law_1414 : decode cL_law 1414 = .ok (.iconst 0, 1) := by decide +kernel
theorem dL_law_1415 : decode cL_law 1415 = .ok (.ireturn, 1) := by decide +kernel
theorem dL_law_1416 : decode cL_law 1416 = .ok (.goto 59, 3) := by decide +kernel
theorem dL_law_1419 : decode cL_law 1419 = .ok (.aload_n 1, 1) := by decide +kernel
theorem dL_law_1420 : decode cL_law 1420 = .ok (.aload_n 0, 1) := by decide +kernel
theorem dL_law_1421 : decode cL_law 1421 = .ok (.iload 5, 2) := by decide +kernel
theorem dL_law_1423 : decode cL_law 1423 = .ok (.iconst 1, 1) := by decide +kernel
theorem dL_law_1424 : decode cL_law 1424 = .ok (.iadd, 1) := by decide +kernel
theorem dL_law_1425 : decode cL_law 1425 = .ok (.iaload, 1) := by decide +kernel
theorem dL_law_1426 : decode cL_law 1426 = .ok (.aload_n 3, 1) := by decide +kernel
theorem dL_law_1427 : decode cL_law 1427 = .ok (.invokestatic 174, 3) := by decide +kernel
theorem dL_law_1430 : decode cL_law 1430 = .ok (.istore 6, 2) := by decide +kernel
theorem dL_law_1432 : decode cL_law 1432 = .ok (.aload_n 2, 1) := by decide +kernel
theorem dL_law_1433 : decode cL_law 1433 = .ok (.aload_n 0, 1) := by decide +kernel
theorem dL_law_1434 : decode cL_law 1434 = .ok (.iload 5, 2) := by decide +kernel
theorem dL_law_1436 : decode cL_law 1436 = .ok (.iconst 1, 1) := by decide +kernel
theorem dL_law_1437 : decode cL_law 1437 = .ok (.iadd, 1) := by decide +kernel
theorem dL_law_1438 : decode cL_law 1438 = .ok (.iaload, 1) := by decide +kernel
theorem dL_law_1439 : decode cL_law 1439 = .ok (.invokevirtual 176, 3) := by decide +kernel
theorem dL_law_1442 : decode cL_law 1442 = .ok (.istore 7, 2) := by decide +kernel
theorem dL_law_1444 : decode cL_law 1444 = .ok (.aload_n 2, 1) := by decide +kernel
theorem dL_law_1445 : decode cL_law 1445 = .ok (.invokevirtual 92, 3) := by decide +kernel
theorem dL_law_1448 : decode cL_law 1448 = .ok (.iload 6, 2) := by decide +kernel
theorem dL_law_1450 : decode cL_law 1450 = .ok (.if_icmp .eq 5, 3) := by decide +kernel
theorem dL_law_1453 : decode cL_law 1453 = .ok (.iconst 0, 1) := by decide +kernel
theorem dL_law_1454 : decode cL_law 1454 = .ok (.ireturn, 1) := by decide +kernel
theorem dL_law_1455 : decode cL_law 1455 = .ok (.iload 6, 2) := by decide +kernel
theorem dL_law_1457 : decode cL_law 1457 = .ok (.ifCond .ne 15, 3) := by decide +kernel
theorem dL_law_1460 : decode cL_law 1460 = .ok (.aload_n 3, 1) := by decide +kernel
theorem dL_law_1461 : decode cL_law 1461 = .ok (.iconst 0, 1) := by decide +kernel
theorem dL_law_1462 : decode cL_law 1462 = .ok (.laload, 1) := by decide +kernel
theorem dL_law_1463 : decode cL_law 1463 = .ok (.iload 7, 2) := by decide +kernel
theorem dL_law_1465 : decode cL_law 1465 = .ok (.i2l, 1) := by decide +kernel
theorem dL_law_1466 : decode cL_law 1466 = .ok (.lcmp, 1) := by decide +kernel
theorem dL_law_1467 : decode cL_law 1467 = .ok (.ifCond .eq 5, 3) := by decide +kernel
theorem dL_law_1470 : decode cL_law 1470 = .ok (.iconst 0, 1) := by decide +kernel
theorem dL_law_1471 : decode cL_law 1471 = .ok (.ireturn, 1) := by decide +kernel
theorem dL_law_1472 : decode cL_law 1472 = .ok (.goto 3, 3) := by decide +kernel
theorem dL_law_1475 : decode cL_law 1475 = .ok (.iinc 5 5, 3) := by decide +kernel
theorem dL_law_1478 : decode cL_law 1478 = .ok (.goto (-1450), 3) := by decide +kernel
theorem dL_law_1481 : decode cL_law 1481 = .ok (.iconst 1, 1) := by decide +kernel
theorem dL_law_1482 : decode cL_law 1482 = .ok (.ireturn, 1) := by decide +kernel
end
section
/-! ===== THE CORE: a world is a function from addresses to cells; J says that a place in a method is good ===== -/
def BG : List Cond := lw_tbl.filter goodWord
theorem BG_in {w : Cond} (h : w ∈ lw_tbl) (g : goodWord w = true) : w ∈ BG := List.mem_filter.mpr ⟨h, g⟩
theorem BG_t {w : Cond} (h : w ∈ tables_1) (g : goodWord w = true) : w ∈ BG := BG_in (List.mem_append_right _ h) g
theorem BG_ok {Ts : List Cond} (h : ∀ w ∈ BG, w ∈ Ts) : GoodIn Ts BG := fun w hw => ⟨h w hw, good_of_word (List.mem_filter.mp hw).2⟩
abbrev iI (z : Int) : Int32 := Int32.ofInt z
abbrev iL (z : Int) : Int64 := Int64.ofInt z
abbrev Wd : Type := Nat → Option va_E
def wu (w : Wd) (a : Nat) (e : va_E) : Wd := fun q => if q = a then some e else w q
theorem wu_s {w : Wd} {a : Nat} {e : va_E} : wu w a e a = some e := by simp [wu]
theorem wu_n {w : Wd} {a q : Nat} {e : va_E} (h : q ≠ a) : wu w a e q = w q := by simp [wu, h]
def HP (D : va_G) (w : Wd) (H : Heap) : Prop := ∀ (a : Nat) (e : va_E), w a = some e → va_at D vwCl (a, e) H
theorem HP.lt {D : va_G} {w : Wd} {H : Heap} (h : HP D w H) {a : Nat} {e : va_E} (ha : w a = some e) : a < H.size := (h a e ha).lt
theorem HP.fresh {D : va_G} {w : Wd} {H : Heap} (h : HP D w H) : w H.size = none := by
  cases hq : w H.size with
  | none => rfl
  | some e => exact absurd (h.lt hq) (Nat.lt_irrefl _)
theorem HP.kept {D : va_G} {w : Wd} {H H1 : Heap} (h : HP D w H) (hq : ∀ q : Nat, q < H.size → H1[q]? = H[q]?) : HP D w H1 := fun a e ha => (h a e ha).kept (hq a (h.lt ha))
theorem HP.set {D : va_G} {w : Wd} {H H1 : Heap} {a : Nat} {e : va_E} (h : HP D w H) (he : va_at D vwCl (a, e) H1) (oq : ∀ q : Nat, q ≠ a → H1[q]? = H[q]?) : HP D (wu w a e) H1 := by
  intro q e1 hq
  by_cases hqa : q = a
  · subst hqa
    rw [wu_s] at hq
    cases hq
    exact he
  · rw [wu_n hqa] at hq
    exact (h q e1 hq).kept (oq q hqa)
theorem HP.push {D : va_G} {w : Wd} {H H1 : Heap} {e : va_E} (h : HP D w H) (he : va_at D vwCl (H.size, e) H1) (oq : ∀ q : Nat, q < H.size → H1[q]? = H[q]?) : HP D (wu w H.size e) H1 := by
  intro q e1 hq
  by_cases hqa : q = H.size
  · subst hqa
    rw [wu_s] at hq
    cases hq
    exact he
  · rw [wu_n hqa] at hq
    exact (h q e1 hq).kept (oq q (h.lt hq))
/-- one cell of a world, as the kit's rows read it -/
theorem HP.one {D : va_G} {w : Wd} {H : Heap} (h : HP D w H) {a : Nat} {e : va_E} (ha : w a = some e) : va_P D vwCl [(a, e)] H := by
  intro k q hk
  match k, hk with
  | 0, hk => cases hk; exact h a e ha
  | k + 1, hk => simp at hk
def tysOf (ca : Nat → ClassId) : List (ClassId × FieldType) := [(ca 0, .int), (ca 1, .boolean), (ca 2, .object "Calibratory$Instrument"), (ca 3, .object "Calibratory$Measurement"), (ca 4, .object "Calibratory$Calibration"), (ca 5, .long), (ca 6, .double)]
def jStrs : List (String × Nat × String) := [("Calibratory", 67, "days out of range"), ("Calibratory", 90, "its reference is not trusted"), ("Calibratory", 116, "it is not trusted, or no more measurements"), ("Calibratory", 219, "no such measurement"), ("Calibratory", 84, "found or left out of range"), ("Calibratory", 247, "each out of range"), ("Calibratory", 33, "tolerance, uncertainty or interval out of range"), ("Calibratory", 44, "no more instruments"), ("Calibratory", 74, "no such instrument"), ("Calibratory", 193, "it is not calibrated"), ("Calibratory", 61, "an instrument would be its own reference")]
abbrev nIO : String := "java/lang/IndexOutOfBoundsException"
abbrev nIA : String := "java/lang/IllegalArgumentException"
abbrev nIS : String := "java/lang/IllegalStateException"
def jYes : List (String × String) := [(nIO, nIO), (nIA, nIA), (nIS, nIS)]
def jNo : List (String × String) := [(nIO, nIA), (nIO, nIS), (nIA, nIO), (nIA, nIS), (nIS, nIO), (nIS, nIA)]
def jDecl : List MethodName := [Bundle.initS "java/lang/RuntimeException", Bundle.initS "java/lang/Exception", Bundle.initS "java/lang/Throwable"]
def jAO : List String := ["Calibratory$Instrument", "Calibratory$Measurement", "Calibratory$Calibration"]
/-- what holds of every start of a method: the classes, the arrays' classes, what a throw needs, the law's own cells lie from base on -/
def GI (D : va_G) (ca : Nat → ClassId) (base : Nat) (U : State) (H : Heap) : Prop :=
  va_K D vwCl (tysOf ca) U ∧ base ≤ H.size ∧ vx_Zq Bundle.tN "UNASSIGNED_STACK" Bundle.steD (fun q => base ≤ q) U H ∧ vx_Zq Bundle.tN "SUPPRESSED_SENTINEL" Bundle.listD (fun q => base ≤ q) U H ∧
  (∀ q ∈ jStrs, ∃ a : Nat, vk_R q.1 q.2.1 q.2.2 a U) ∧ (∀ q ∈ jYes, va_Nw (.castable q.1 q.2) U) ∧ (∀ q ∈ jNo, va_Nc q.1 q.2 U) ∧ (∀ C ∈ jAO, va_AO C U) ∧ ∀ z ∈ jDecl, va_Nw (.declares z) U
theorem GI.warm {D : va_G} {ca : Nat → ClassId} {base : Nat} {s U : State} {H : Heap} (hW : s.WarmedH U.vm) (h : GI D ca base s H) : GI D ca base U H := by
  obtain ⟨h1, h2, h3, h4, h5, h6, h7, h8, h9⟩ := h
  exact ⟨va_K.moved hW.alike h1, h2, h3.moved hW.alike, h4.moved hW.alike, fun q hq => (h5 q hq).imp fun a ha => vk_R.warm hW ha, fun q hq => va_Nw.warmC hW (h6 q hq), fun q hq => (h7 q hq).moved hW.alike, fun C hC => (h8 C hC).moved hW.alike, fun z hz => va_Nw.warmD hW (h9 z hz)⟩
theorem GI.same {D : va_G} {ca : Nat → ClassId} {base : Nat} {s U : State} {H : Heap} (hv : U.vm = s.vm) (h : GI D ca base s H) : GI D ca base U H := by
  have hA : s.vm.Alike U.vm := by rw [hv]; exact Vm.Alike.refl s.vm
  obtain ⟨h1, h2, h3, h4, h5, h6, h7, h8, h9⟩ := h
  exact ⟨va_K.moved hA h1, h2, h3.moved hA, h4.moved hA, fun q hq => (h5 q hq).imp fun a ha => vk_R.same hv ha, fun q hq => va_Nw.same rfl hv.symm (h6 q hq), fun q hq => (h7 q hq).moved hA, fun C hC => (h8 C hC).moved hA, fun z hz => va_Nw.same rfl hv.symm (h9 z hz)⟩
theorem GI.kept {D : va_G} {ca : Nat → ClassId} {base : Nat} {s : State} {H H1 : Heap} (h : GI D ca base s H) (hz : H.size ≤ H1.size) (hq : ∀ q : Nat, q < H.size → ¬ base ≤ q → H1[q]? = H[q]?) : GI D ca base s H1 := by
  obtain ⟨h1, h2, h3, h4, h5⟩ := h
  exact ⟨h1, Nat.le_trans h2 hz, h3.kept hq, h4.kept hq, h5⟩
/-- a method's contract: it returns v with the world w' behind it as post says, or throws E as px says -/
def Qn (D : va_G) (base : Nat) (post : Option Value → Wd → Prop) : Array Value → State → Outcome → State → Prop := fun _ st o t => ∃ (v : Option Value) (w' : Wd), o = .returned v ∧ post v w' ∧ HP D w' t.heap ∧ va_F (fun q => base ≤ q) st t
def Xn (D : va_G) (base : Nat) (px : String → Wd → Prop) : String → State → State → Prop := fun E st t => ∃ w' : Wd, px E w' ∧ HP D w' t.heap ∧ va_F (fun q => base ≤ q) st t
def Rm (d mc ms : Nat) : Room := { frames := 8 * d + 8, cells := mc, slots := ms, locals := 120 * d + 200 }
def CT (l : Launch) (D : va_G) (ca : Nat → ClassId) (base : Nat) (y : MethodName) (b : ByteArray) (maxL : Nat) (ret : Option FieldType) (d mc ms : Nat) (av : List Value) (w : Wd) (post : Option Value → Wd → Prop) (px : String → Wd → Prop) : Prop :=
  vx_Met l y (.code y b maxL ret :: BG) (Rm d mc ms) (va_Pc av (fun U => GI D ca base U U.heap ∧ HP D w U.heap)) (Qn D base post) (Xn D base px) mc ms (fun q => base ≤ q)
def Cx (p : Program) (l : Launch) (s : State) (m : MethodId) (args : Array Value) (meth : Method) (c : Code) (y : MethodName) (cc : ByteArray) (nL : Nat) (ret : Option FieldType) (D : va_G) (ca : Nat → ClassId) (base : Nat) : Prop :=
  p.tables.exec = Jvm.exec ∧ c.code = cc ∧ c.maxLocals = nL ∧ s.vm.findClass y.cls = some m.cls ∧ (∀ w ∈ BG, w.before args s = true) ∧ GI D ca base s s.heap ∧ meth.locks = false ∧ l.stackTraces = false ∧ meth.sig.returnType = ret ∧ meth.name = y.name
def J (p : Program) (l : Launch) (e : Env) (R : Room) (s : State) (m : MethodId) (args : Array Value) (below : List Frame) (meth : Method) (c : Code) (Q : State → Prop) (D : va_G) (base nL k n pc : Nat) (lv : List (Nat × Value)) (st : List Value) (w : Wd) : Prop :=
  ∀ (ls : Array Slot) (H : Heap) (locs : List Loc), lv_has ls nL lv → HP D w H → va_S (fun q => base ≤ q) s.heap H locs → W p l e R s m args below meth c H locs k n Q (F0 m pc ls st)
/-- the same with an exception of the class E thrown over the frame -/
def JX (p : Program) (l : Launch) (e : Env) (R : Room) (s : State) (m : MethodId) (args : Array Value) (below : List Frame) (meth : Method) (c : Code) (Q : State → Prop) (D : va_G) (base nL k n pc : Nat) (lv : List (Nat × Value)) (st : List Value) (w : Wd) (E : String) : Prop :=
  ∀ (ls : Array Slot) (H : Heap) (locs : List Loc) (q : Addr) (ce : Cell), lv_has ls nL lv → HP D w H → va_S (fun q => base ≤ q) s.heap H locs → H[q]? = some ce → ce.vm = .none → s.vm.findClass E = some ce.cls → vx_W p l e R s m args below meth c H locs k n Q (F0 m pc ls st) q
/-- where a call goes: the words of its link -/
def SV (own C : String) (idx : Nat) (y : MethodName) (b : ByteArray) (maxL : Nat) (ret : Option FieldType) (n : Nat) : Prop :=
  Cond.methodLink own idx y ∈ BG ∧ Cond.instanceMethod y ∈ BG ∧ Cond.selects C y y ∈ BG ∧ Cond.initialized y.cls ∈ BG ∧ Cond.code y b maxL ret ∈ BG ∧ (y.cls ≠ "java/lang/invoke/MethodHandle" ∧ y.cls ≠ "java/lang/invoke/VarHandle") ∧ (parseMethodDescriptor y.desc).map (fun d => d.parameters.length) = some n
def SS (own : String) (idx : Nat) (y : MethodName) (b : ByteArray) (maxL : Nat) (ret : Option FieldType) (n : Nat) : Prop :=
  Cond.methodLink own idx y ∈ BG ∧ Cond.static y ∈ BG ∧ Cond.initialized y.cls ∈ BG ∧ Cond.code y b maxL ret ∈ BG ∧ (y.cls ≠ "java/lang/invoke/MethodHandle" ∧ y.cls ≠ "java/lang/invoke/VarHandle") ∧ (parseMethodDescriptor y.desc).map (fun d => d.parameters.length) = some n
def SI (own : String) (idx : Nat) (y : MethodName) (b : ByteArray) (maxL : Nat) (n : Nat) : Prop :=
  Cond.methodLink own idx y ∈ BG ∧ Cond.instanceMethod y ∈ BG ∧ Cond.initialized y.cls ∈ BG ∧ Cond.code y b maxL none ∈ BG ∧ y.name = "<init>" ∧ (y.cls ≠ "java/lang/invoke/MethodHandle" ∧ y.cls ≠ "java/lang/invoke/VarHandle") ∧ (parseMethodDescriptor y.desc).map (fun d => d.parameters.length) = some n
/-- a field by its link: class ci of vwCl, its k-th field -/
def FL (own : String) (idx ci k : Nat) : Prop := ∃ (C : String) (T : u_T) (N : Nat), vwCl[ci]? = some (C, T, N) ∧ k < N ∧ Cond.fieldLink own idx C (T k).2.1 (T k).2.2.1 ∈ BG ∧ (T k).1 = C ∧ ∀ w ∈ u_ws C T N, w ∈ BG
def FP (own : String) (idx ci k : Nat) (ty : FieldType) (fin : Bool) : Prop := ∃ (C : String) (T : u_T) (N : Nat) (ty0 : Nat → FieldType), vwCl[ci]? = some (C, T, N) ∧ k < N ∧ Cond.fieldLink own idx C (T k).2.1 (T k).2.2.1 ∈ BG ∧ (T k).1 = C ∧ (∀ w ∈ u_ws C T N, w ∈ BG) ∧ (∀ j, j < N → parseFieldDescriptor (T j).2.2.1 = some (ty0 j)) ∧ (∀ a, a < N → ∀ b, b < N → a ≠ b → (T a).2.1 ≠ (T b).2.1) ∧ (T k).2.2.2 = fin ∧ parseFieldDescriptor (T k).2.2.1 = some ty
/-- a class that is made: class ci of vwCl with the values of a new object -/
def NW (own : String) (idx ci N : Nat) (fs : List Value) : Prop := ∃ (C : String) (T : u_T) (ty0 : Nat → FieldType), vwCl[ci]? = some (C, T, N) ∧ (∀ w ∈ u_ws C T N, w ∈ BG) ∧ (∀ j, j < N → parseFieldDescriptor (T j).2.2.1 = some (ty0 j)) ∧ Cond.classLink own idx C ∈ BG ∧ Cond.instantiable C N ∈ BG ∧ Cond.initialized C ∈ BG ∧ ∀ j, j < N → defaultValue (ty0 j) = vp_V fs j
def TS (own : String) (ik is ic : Nat) (cls text : String) (names : List String) : Prop := Bundle.fit cls = true ∧ (∀ n ∈ names, Bundle.fit n = true) ∧ Cond.classLink own ik cls ∈ BG ∧ Cond.initialized cls ∈ BG ∧ (own, is, text) ∈ jStrs ∧ (cls, cls) ∈ jYes ∧ (∀ w ∈ (vx_atS own ic cls names).filter goodWord, w ∈ BG) ∧ (∀ w ∈ (vx_atS own ic cls names).filter (fun w => !goodWord w), w ∈ Cond.castable cls cls :: jDecl.map Cond.declares) ∧ (∀ w ∈ Cond.classLink own ik cls :: Cond.initialized cls :: vx_atS own ic cls names, vx_ot w = true)
section JROWS
variable {p : Program} {l : Launch} {e : Env} {R : Room} {s : State} {m : MethodId} {args : Array Value} {below : List Frame} {meth : Method} {c : Code} {Q : State → Prop} {D : va_G} {ca : Nat → ClassId} {base nL k n pc q : Nat} {lv lv' : List (Nat × Value)} {st : List Value} {w : Wd} {y : MethodName} {cc : ByteArray} {ret : Option FieldType}
theorem j_widen {k' n' : Nat} (h1 : k ≤ k') (h2 : n ≤ n') (kk : J p l e R s m args below meth c Q D base nL k' n' pc lv st w) : J p l e R s m args below meth c Q D base nL k n pc lv st w :=
  fun ls H locs hl hP hS => W.widen h1 h2 (kk ls H locs hl hP hS)
theorem j_lv (kk : J p l e R s m args below meth c Q D base nL k n pc lv' st w) (ks : List Nat) (h : lv_pick lv ks = lv') : J p l e R s m args below meth c Q D base nL k n pc lv st w :=
  fun ls H locs hl hP hS => kk ls H locs (lv_sub hl ks h) hP hS
theorem j_iload_n (X : Cx p l s m args meth c y cc nL ret D ca base) {i : Fin 4} {x : Int32} (d : decode cc pc = .ok (.iload_n i, 1)) (hq : pc + 1 = q) (j : Nat) (hj : lv[j]? = some ((i : Nat), .int x)) (kk : J p l e R s m args below meth c Q D base nL k n q lv (.int x :: st) w) : J p l e R s m args below meth c Q D base nL k n pc lv st w := by
  subst hq
  intro ls H locs hl hP hS
  exact lv_iload_n X.1 X.2.1 d rfl (lv_at hl j hj) (kk ls H locs hl hP hS)
theorem j_iload (X : Cx p l s m args meth c y cc nL ret D ca base) {i : Nat} {x : Int32} (d : decode cc pc = .ok (.iload i, 2)) (hq : pc + 2 = q) (j : Nat) (hj : lv[j]? = some (i, .int x)) (kk : J p l e R s m args below meth c Q D base nL k n q lv (.int x :: st) w) : J p l e R s m args below meth c Q D base nL k n pc lv st w := by
  subst hq
  intro ls H locs hl hP hS
  exact lv_iload X.1 X.2.1 d (lv_at hl j hj) (kk ls H locs hl hP hS)
theorem j_lload_n (X : Cx p l s m args meth c y cc nL ret D ca base) {i : Fin 4} {x : Int64} (d : decode cc pc = .ok (.lload_n i, 1)) (hq : pc + 1 = q) (j : Nat) (hj : lv[j]? = some ((i : Nat), .long x)) (kk : J p l e R s m args below meth c Q D base nL k n q lv (.long x :: st) w) : J p l e R s m args below meth c Q D base nL k n pc lv st w := by
  subst hq
  intro ls H locs hl hP hS
  exact lv_lload_n X.1 X.2.1 d rfl (lv_at hl j hj) (kk ls H locs hl hP hS)
theorem j_lload (X : Cx p l s m args meth c y cc nL ret D ca base) {i : Nat} {x : Int64} (d : decode cc pc = .ok (.lload i, 2)) (hq : pc + 2 = q) (j : Nat) (hj : lv[j]? = some (i, .long x)) (kk : J p l e R s m args below meth c Q D base nL k n q lv (.long x :: st) w) : J p l e R s m args below meth c Q D base nL k n pc lv st w := by
  subst hq
  intro ls H locs hl hP hS
  exact lv_lload X.1 X.2.1 d (lv_at hl j hj) (kk ls H locs hl hP hS)
theorem j_aload_n (X : Cx p l s m args meth c y cc nL ret D ca base) {i : Fin 4} {x : Nat} (d : decode cc pc = .ok (.aload_n i, 1)) (hq : pc + 1 = q) (j : Nat) (hj : lv[j]? = some ((i : Nat), .ref x)) (kk : J p l e R s m args below meth c Q D base nL k n q lv (.ref x :: st) w) : J p l e R s m args below meth c Q D base nL k n pc lv st w := by
  subst hq
  intro ls H locs hl hP hS
  exact lv_aload_n X.1 X.2.1 d rfl (lv_at hl j hj) (kk ls H locs hl hP hS)
theorem j_aload (X : Cx p l s m args meth c y cc nL ret D ca base) {i : Nat} {x : Nat} (d : decode cc pc = .ok (.aload i, 2)) (hq : pc + 2 = q) (j : Nat) (hj : lv[j]? = some (i, .ref x)) (kk : J p l e R s m args below meth c Q D base nL k n q lv (.ref x :: st) w) : J p l e R s m args below meth c Q D base nL k n pc lv st w := by
  subst hq
  intro ls H locs hl hP hS
  exact lv_aload X.1 X.2.1 d (lv_at hl j hj) (kk ls H locs hl hP hS)
theorem j_dload (X : Cx p l s m args meth c y cc nL ret D ca base) {i : Nat} {x : UInt64} (d : decode cc pc = .ok (.dload i, 2)) (hq : pc + 2 = q) (j : Nat) (hj : lv[j]? = some (i, .double x)) (kk : J p l e R s m args below meth c Q D base nL k n q lv (.double x :: st) w) : J p l e R s m args below meth c Q D base nL k n pc lv st w := by
  subst hq
  intro ls H locs hl hP hS
  exact lv_dload X.1 X.2.1 d (lv_at hl j hj) (kk ls H locs hl hP hS)
theorem j_aloadq_n (X : Cx p l s m args meth c y cc nL ret D ca base) {i : Fin 4} {r : Option Nat} (d : decode cc pc = .ok (.aload_n i, 1)) (hq : pc + 1 = q) (j : Nat) (hj : lv[j]? = some ((i : Nat), va_rf r)) (kk : J p l e R s m args below meth c Q D base nL k n q lv (va_rf r :: st) w) : J p l e R s m args below meth c Q D base nL k n pc lv st w := by
  subst hq
  intro ls H locs hl hP hS
  have h1 := lv_at hl j hj
  cases r with
  | none => exact lv_aload_nN X.1 X.2.1 d rfl h1 (kk ls H locs hl hP hS)
  | some a => exact lv_aload_n X.1 X.2.1 d rfl h1 (kk ls H locs hl hP hS)
theorem j_aloadq (X : Cx p l s m args meth c y cc nL ret D ca base) {i : Nat} {r : Option Nat} (d : decode cc pc = .ok (.aload i, 2)) (hq : pc + 2 = q) (j : Nat) (hj : lv[j]? = some (i, va_rf r)) (kk : J p l e R s m args below meth c Q D base nL k n q lv (va_rf r :: st) w) : J p l e R s m args below meth c Q D base nL k n pc lv st w := by
  subst hq
  intro ls H locs hl hP hS
  have h1 := lv_at hl j hj
  cases r with
  | none => exact lv_aloadN X.1 X.2.1 d h1 (kk ls H locs hl hP hS)
  | some a => exact lv_aload X.1 X.2.1 d h1 (kk ls H locs hl hP hS)
theorem j_istore_n (X : Cx p l s m args meth c y cc nL ret D ca base) {f : Fin 4} {i : Nat} {x : Int32} (d : decode cc pc = .ok (.istore_n f, 1)) (hi : (f : Nat) = i) (hn : i < nL) (hq : pc + 1 = q) (hl' : (i, Value.int x) :: lv.filter (fun q => !(q.1 == i) && !(q.1 + 1 == i && q.2.category == 2)) = lv') (kk : J p l e R s m args below meth c Q D base nL k n q lv' st w) : J p l e R s m args below meth c Q D base nL k n pc lv (.int x :: st) w := by
  subst hq
  intro ls H locs hl hP hS
  exact lv_istore_n X.1 X.2.1 d hi hl hn hl' (fun ls hl => (kk ls H locs hl hP hS))
theorem j_istore (X : Cx p l s m args meth c y cc nL ret D ca base) {i : Nat} {x : Int32} (d : decode cc pc = .ok (.istore i, 2)) (hn : i < nL) (hq : pc + 2 = q) (hl' : (i, Value.int x) :: lv.filter (fun q => !(q.1 == i) && !(q.1 + 1 == i && q.2.category == 2)) = lv') (kk : J p l e R s m args below meth c Q D base nL k n q lv' st w) : J p l e R s m args below meth c Q D base nL k n pc lv (.int x :: st) w := by
  subst hq
  intro ls H locs hl hP hS
  exact lv_istore X.1 X.2.1 d hl hn hl' (fun ls hl => (kk ls H locs hl hP hS))
theorem j_astore_n (X : Cx p l s m args meth c y cc nL ret D ca base) {f : Fin 4} {i : Nat} {x : Nat} (d : decode cc pc = .ok (.astore_n f, 1)) (hi : (f : Nat) = i) (hn : i < nL) (hq : pc + 1 = q) (hl' : (i, Value.ref x) :: lv.filter (fun q => !(q.1 == i) && !(q.1 + 1 == i && q.2.category == 2)) = lv') (kk : J p l e R s m args below meth c Q D base nL k n q lv' st w) : J p l e R s m args below meth c Q D base nL k n pc lv (.ref x :: st) w := by
  subst hq
  intro ls H locs hl hP hS
  exact lv_astore_n X.1 X.2.1 d hi hl hn hl' (fun ls hl => (kk ls H locs hl hP hS))
theorem j_astore (X : Cx p l s m args meth c y cc nL ret D ca base) {i : Nat} {x : Nat} (d : decode cc pc = .ok (.astore i, 2)) (hn : i < nL) (hq : pc + 2 = q) (hl' : (i, Value.ref x) :: lv.filter (fun q => !(q.1 == i) && !(q.1 + 1 == i && q.2.category == 2)) = lv') (kk : J p l e R s m args below meth c Q D base nL k n q lv' st w) : J p l e R s m args below meth c Q D base nL k n pc lv (.ref x :: st) w := by
  subst hq
  intro ls H locs hl hP hS
  exact lv_astore X.1 X.2.1 d hl hn hl' (fun ls hl => (kk ls H locs hl hP hS))
theorem j_lstore_n (X : Cx p l s m args meth c y cc nL ret D ca base) {f : Fin 4} {i : Nat} {x : Int64} (d : decode cc pc = .ok (.lstore_n f, 1)) (hi : (f : Nat) = i) (hn : i + 1 < nL) (hq : pc + 1 = q) (hl' : (i, Value.long x) :: lv.filter (fun q => !(q.1 == i) && (!(q.1 == i + 1) && !(q.1 + 1 == i && q.2.category == 2))) = lv') (kk : J p l e R s m args below meth c Q D base nL k n q lv' st w) : J p l e R s m args below meth c Q D base nL k n pc lv (.long x :: st) w := by
  subst hq
  intro ls H locs hl hP hS
  exact lv_lstore_n X.1 X.2.1 d hi hl hn hl' (fun ls hl => (kk ls H locs hl hP hS))
theorem j_lstore (X : Cx p l s m args meth c y cc nL ret D ca base) {i : Nat} {x : Int64} (d : decode cc pc = .ok (.lstore i, 2)) (hn : i + 1 < nL) (hq : pc + 2 = q) (hl' : (i, Value.long x) :: lv.filter (fun q => !(q.1 == i) && (!(q.1 == i + 1) && !(q.1 + 1 == i && q.2.category == 2))) = lv') (kk : J p l e R s m args below meth c Q D base nL k n q lv' st w) : J p l e R s m args below meth c Q D base nL k n pc lv (.long x :: st) w := by
  subst hq
  intro ls H locs hl hP hS
  exact lv_lstore X.1 X.2.1 d hl hn hl' (fun ls hl => (kk ls H locs hl hP hS))
theorem j_dstore (X : Cx p l s m args meth c y cc nL ret D ca base) {i : Nat} {x : UInt64} (d : decode cc pc = .ok (.dstore i, 2)) (hn : i + 1 < nL) (hq : pc + 2 = q) (hl' : (i, Value.double x) :: lv.filter (fun q => !(q.1 == i) && (!(q.1 == i + 1) && !(q.1 + 1 == i && q.2.category == 2))) = lv') (kk : J p l e R s m args below meth c Q D base nL k n q lv' st w) : J p l e R s m args below meth c Q D base nL k n pc lv (.double x :: st) w := by
  subst hq
  intro ls H locs hl hP hS
  exact lv_dstore X.1 X.2.1 d hl hn hl' (fun ls hl => (kk ls H locs hl hP hS))
theorem j_astoreq_n (X : Cx p l s m args meth c y cc nL ret D ca base) {f : Fin 4} {i : Nat} {r : Option Nat} (d : decode cc pc = .ok (.astore_n f, 1)) (hi : (f : Nat) = i) (hn : i < nL) (hq : pc + 1 = q) (hl' : (i, va_rf r) :: lv.filter (fun q => !(q.1 == i) && !(q.1 + 1 == i && q.2.category == 2)) = lv') (kk : J p l e R s m args below meth c Q D base nL k n q lv' st w) : J p l e R s m args below meth c Q D base nL k n pc lv (va_rf r :: st) w := by
  subst hq
  intro ls H locs hl hP hS
  cases r with
  | none => exact lv_astore_nN X.1 X.2.1 d hi hl hn hl' (fun ls hl => (kk ls H locs hl hP hS))
  | some a => exact lv_astore_n X.1 X.2.1 d hi hl hn hl' (fun ls hl => (kk ls H locs hl hP hS))
theorem j_astoreq (X : Cx p l s m args meth c y cc nL ret D ca base) {i : Nat} {r : Option Nat} (d : decode cc pc = .ok (.astore i, 2)) (hn : i < nL) (hq : pc + 2 = q) (hl' : (i, va_rf r) :: lv.filter (fun q => !(q.1 == i) && !(q.1 + 1 == i && q.2.category == 2)) = lv') (kk : J p l e R s m args below meth c Q D base nL k n q lv' st w) : J p l e R s m args below meth c Q D base nL k n pc lv (va_rf r :: st) w := by
  subst hq
  intro ls H locs hl hP hS
  cases r with
  | none => exact lv_astoreN X.1 X.2.1 d hl hn hl' (fun ls hl => (kk ls H locs hl hP hS))
  | some a => exact lv_astore X.1 X.2.1 d hl hn hl' (fun ls hl => (kk ls H locs hl hP hS))
theorem j_iinc (X : Cx p l s m args meth c y cc nL ret D ca base) {i : Nat} {a : Int} {z : Int} (d : decode cc pc = .ok (.iinc i a, 3)) (j : Nat) (hj : lv[j]? = some (i, .int (iI z))) (hn : i < nL) (hq : pc + 3 = q) (hl' : (i, Value.int (iI (z + a))) :: lv.filter (fun q => !(q.1 == i) && !(q.1 + 1 == i && q.2.category == 2)) = lv') (kk : J p l e R s m args below meth c Q D base nL k n q lv' st w) : J p l e R s m args below meth c Q D base nL k n pc lv st w := by
  subst hq
  intro ls H locs hl hP hS
  exact lv_iinc X.1 X.2.1 d hl (k := j) hj (Int32.ofInt_add z a).symm hn hl' (fun ls hl => (kk ls H locs hl hP hS))
theorem j_iconst (X : Cx p l s m args meth c y cc nL ret D ca base) {a : Int} (d : decode cc pc = .ok (.iconst a, 1)) (hq : pc + 1 = q) (kk : J p l e R s m args below meth c Q D base nL k n q lv (.int (iI a) :: st) w) : J p l e R s m args below meth c Q D base nL k n pc lv st w := by
  subst hq
  intro ls H locs hl hP hS
  exact lv_iconst X.1 X.2.1 d rfl (kk ls H locs hl hP hS)
theorem j_bipush (X : Cx p l s m args meth c y cc nL ret D ca base) {a : Int} (hv : (Int8.ofInt a).toInt32 = iI a) (d : decode cc pc = .ok (.bipush a, 2)) (hq : pc + 2 = q) (kk : J p l e R s m args below meth c Q D base nL k n q lv (.int (iI a) :: st) w) : J p l e R s m args below meth c Q D base nL k n pc lv st w := by
  subst hq
  intro ls H locs hl hP hS
  exact lv_bipush X.1 X.2.1 d hv (kk ls H locs hl hP hS)
theorem j_sipush (X : Cx p l s m args meth c y cc nL ret D ca base) {a : Int} (hv : (Int16.ofInt a).toInt32 = iI a) (d : decode cc pc = .ok (.sipush a, 3)) (hq : pc + 3 = q) (kk : J p l e R s m args below meth c Q D base nL k n q lv (.int (iI a) :: st) w) : J p l e R s m args below meth c Q D base nL k n pc lv st w := by
  subst hq
  intro ls H locs hl hP hS
  exact lv_sipush X.1 X.2.1 d hv (kk ls H locs hl hP hS)
theorem j_lconst (X : Cx p l s m args meth c y cc nL ret D ca base) {f : Fin 2} {a : Int} (hv : Int64.ofNat (f : Nat) = iL a) (d : decode cc pc = .ok (.lconst f, 1)) (hq : pc + 1 = q) (kk : J p l e R s m args below meth c Q D base nL k n q lv (.long (iL a) :: st) w) : J p l e R s m args below meth c Q D base nL k n pc lv st w := by
  subst hq
  intro ls H locs hl hP hS
  exact lv_lconst X.1 X.2.1 d hv (kk ls H locs hl hP hS)
theorem j_null (X : Cx p l s m args meth c y cc nL ret D ca base)  (d : decode cc pc = .ok (.aconst_null, 1)) (hq : pc + 1 = q) (kk : J p l e R s m args below meth c Q D base nL k n q lv (va_rf none :: st) w) : J p l e R s m args below meth c Q D base nL k n pc lv st w := by
  subst hq
  intro ls H locs hl hP hS
  exact lv_null X.1 X.2.1 d (kk ls H locs hl hP hS)
theorem j_ldc (X : Cx p l s m args meth c y cc nL ret D ca base) {idx : Nat} {v : Int32} {a : Int} (hw : Cond.constant y.cls idx v ∈ BG) (hv : v = iI a) (d : decode cc pc = .ok (.ldc idx, 2)) (hq : pc + 2 = q) (kk : J p l e R s m args below meth c Q D base nL k n q lv (.int (iI a) :: st) w) : J p l e R s m args below meth c Q D base nL k n pc lv st w := by
  subst hq
  intro ls H locs hl hP hS
  exact (by subst hv; exact lv_ldc X.1 X.2.1 X.2.2.2.1 (X.2.2.2.2.1 _ hw) d (kk ls H locs hl hP hS))
theorem j_dup (X : Cx p l s m args meth c y cc nL ret D ca base) {v : Value} (hv : v.category = 1) (d : decode cc pc = .ok (.dup, 1)) (hq : pc + 1 = q) (kk : J p l e R s m args below meth c Q D base nL k n q lv (v :: v :: st) w) : J p l e R s m args below meth c Q D base nL k n pc lv (v :: st) w := by
  subst hq
  intro ls H locs hl hP hS
  exact lv_dup X.1 X.2.1 d hv (kk ls H locs hl hP hS)
theorem j_dup2 (X : Cx p l s m args meth c y cc nL ret D ca base) {v u : Value} (hv : v.category = 1) (hu : u.category = 1) (d : decode cc pc = .ok (.dup2, 1)) (hq : pc + 1 = q) (kk : J p l e R s m args below meth c Q D base nL k n q lv (v :: u :: v :: u :: st) w) : J p l e R s m args below meth c Q D base nL k n pc lv (v :: u :: st) w := by
  subst hq
  intro ls H locs hl hP hS
  exact lv_dup2_11 X.1 X.2.1 d hv hu (kk ls H locs hl hP hS)
theorem j_iadd (X : Cx p l s m args meth c y cc nL ret D ca base) {a b : Int} (d : decode cc pc = .ok (.iadd, 1)) (hq : pc + 1 = q) (kk : J p l e R s m args below meth c Q D base nL k n q lv (.int (iI (a + b)) :: st) w) : J p l e R s m args below meth c Q D base nL k n pc lv (.int (iI b) :: .int (iI a) :: st) w := by
  subst hq
  intro ls H locs hl hP hS
  exact lv_iadd X.1 X.2.1 d (by have h := kk ls H locs hl hP hS; rwa [show iI (a + b) = iI a + iI b from Int32.ofInt_add a b] at h)
theorem j_isub (X : Cx p l s m args meth c y cc nL ret D ca base) {a b : Int} (d : decode cc pc = .ok (.isub, 1)) (hq : pc + 1 = q) (kk : J p l e R s m args below meth c Q D base nL k n q lv (.int (iI (a - b)) :: st) w) : J p l e R s m args below meth c Q D base nL k n pc lv (.int (iI b) :: .int (iI a) :: st) w := by
  subst hq
  intro ls H locs hl hP hS
  exact lv_isub X.1 X.2.1 d (by have h := kk ls H locs hl hP hS; rwa [show iI (a - b) = iI a - iI b from Int32.ofInt_sub a b] at h)
theorem j_imul (X : Cx p l s m args meth c y cc nL ret D ca base) {a b : Int} (d : decode cc pc = .ok (.imul, 1)) (hq : pc + 1 = q) (kk : J p l e R s m args below meth c Q D base nL k n q lv (.int (iI (a * b)) :: st) w) : J p l e R s m args below meth c Q D base nL k n pc lv (.int (iI b) :: .int (iI a) :: st) w := by
  subst hq
  intro ls H locs hl hP hS
  exact lv_imul X.1 X.2.1 d (by have h := kk ls H locs hl hP hS; rwa [show iI (a * b) = iI a * iI b from Int32.ofInt_mul a b] at h)
theorem j_ineg (X : Cx p l s m args meth c y cc nL ret D ca base) {a : Int} (d : decode cc pc = .ok (.ineg, 1)) (hq : pc + 1 = q) (kk : J p l e R s m args below meth c Q D base nL k n q lv (.int (iI (-a)) :: st) w) : J p l e R s m args below meth c Q D base nL k n pc lv (.int (iI a) :: st) w := by
  subst hq
  intro ls H locs hl hP hS
  exact lv_ineg X.1 X.2.1 d (by have h := kk ls H locs hl hP hS; rwa [show iI (-a) = -iI a from Int32.ofInt_neg a] at h)
theorem j_ladd (X : Cx p l s m args meth c y cc nL ret D ca base) {a b : Int} (d : decode cc pc = .ok (.ladd, 1)) (hq : pc + 1 = q) (kk : J p l e R s m args below meth c Q D base nL k n q lv (.long (iL (a + b)) :: st) w) : J p l e R s m args below meth c Q D base nL k n pc lv (.long (iL b) :: .long (iL a) :: st) w := by
  subst hq
  intro ls H locs hl hP hS
  exact lv_ladd X.1 X.2.1 d (by have h := kk ls H locs hl hP hS; rwa [show iL (a + b) = iL a + iL b from Int64.ofInt_add a b] at h)
theorem j_lsub (X : Cx p l s m args meth c y cc nL ret D ca base) {a b : Int} (d : decode cc pc = .ok (.lsub, 1)) (hq : pc + 1 = q) (kk : J p l e R s m args below meth c Q D base nL k n q lv (.long (iL (a - b)) :: st) w) : J p l e R s m args below meth c Q D base nL k n pc lv (.long (iL b) :: .long (iL a) :: st) w := by
  subst hq
  intro ls H locs hl hP hS
  exact lv_lsub X.1 X.2.1 d (by have h := kk ls H locs hl hP hS; rwa [show iL (a - b) = iL a - iL b from Int64.ofInt_sub a b] at h)
theorem j_lmul (X : Cx p l s m args meth c y cc nL ret D ca base) {a b : Int} (d : decode cc pc = .ok (.lmul, 1)) (hq : pc + 1 = q) (kk : J p l e R s m args below meth c Q D base nL k n q lv (.long (iL (a * b)) :: st) w) : J p l e R s m args below meth c Q D base nL k n pc lv (.long (iL b) :: .long (iL a) :: st) w := by
  subst hq
  intro ls H locs hl hP hS
  exact lv_lmul X.1 X.2.1 d (by have h := kk ls H locs hl hP hS; rwa [show iL (a * b) = iL a * iL b from Int64.ofInt_mul a b] at h)
theorem j_lneg (X : Cx p l s m args meth c y cc nL ret D ca base) {a : Int} (d : decode cc pc = .ok (.lneg, 1)) (hq : pc + 1 = q) (kk : J p l e R s m args below meth c Q D base nL k n q lv (.long (iL (-a)) :: st) w) : J p l e R s m args below meth c Q D base nL k n pc lv (.long (iL a) :: st) w := by
  subst hq
  intro ls H locs hl hP hS
  exact lv_lneg X.1 X.2.1 d (by have h := kk ls H locs hl hP hS; rwa [show iL (-a) = -iL a from Int64.ofInt_neg a] at h)
theorem j_i2l (X : Cx p l s m args meth c y cc nL ret D ca base) {a : Int} (ha : -2147483648 ≤ a ∧ a ≤ 2147483647) (d : decode cc pc = .ok (.i2l, 1)) (hq : pc + 1 = q) (kk : J p l e R s m args below meth c Q D base nL k n q lv (.long (iL a) :: st) w) : J p l e R s m args below meth c Q D base nL k n pc lv (.int (iI a) :: st) w := by
  subst hq
  intro ls H locs hl hP hS
  exact lv_i2l X.1 X.2.1 d (Int32.toInt64_ofInt ha.1 ha.2) (kk ls H locs hl hP hS)
theorem iI_T {a : Int} (h : -2147483648 ≤ a ∧ a ≤ 2147483647) : (iI a).toInt = a := Int32.toInt_ofInt_of_le h.1 (by omega)
theorem iL_T {a : Int} (h : -9223372036854775808 ≤ a ∧ a ≤ 9223372036854775807) : (iL a).toInt = a := Int64.toInt_ofInt_of_le h.1 (by omega)
theorem iI_lt {a b : Int} (ha : -2147483648 ≤ a ∧ a ≤ 2147483647) (hb : -2147483648 ≤ b ∧ b ≤ 2147483647) : iI a < iI b ↔ a < b := Int32.ofInt_lt_iff_lt ha.1 ha.2 hb.1 hb.2
theorem iI_le {a b : Int} (ha : -2147483648 ≤ a ∧ a ≤ 2147483647) (hb : -2147483648 ≤ b ∧ b ≤ 2147483647) : iI a ≤ iI b ↔ a ≤ b := Int32.ofInt_le_iff_le ha.1 ha.2 hb.1 hb.2
theorem iI_eq {a b : Int} (ha : -2147483648 ≤ a ∧ a ≤ 2147483647) (hb : -2147483648 ≤ b ∧ b ≤ 2147483647) : iI a = iI b ↔ a = b := ⟨fun h => by have := congrArg Int32.toInt h; rwa [iI_T ha, iI_T hb] at this, fun h => by rw [h]⟩
theorem iL_lt {a b : Int} (ha : -9223372036854775808 ≤ a ∧ a ≤ 9223372036854775807) (hb : -9223372036854775808 ≤ b ∧ b ≤ 9223372036854775807) : iL a < iL b ↔ a < b := Int64.ofInt_lt_iff_lt ha.1 ha.2 hb.1 hb.2
theorem iI_z : (0 : Int32) = iI 0 := rfl
theorem iL_z : (0 : Int64) = iL 0 := rfl
theorem iI_cl {a : Int} (h : 0 ≤ a ∧ a ≤ 2147483647) : (iI a).toNatClampNeg = a.toNat := by
  rw [Int32.toNatClampNeg, iI_T (by omega)]
theorem iI_in {a : Int} {N : Nat} (h : 0 ≤ a ∧ a < (N : Int)) (hN : N < 2147483648) : vp_in (iI a) N := by
  rw [vp_in_iff, iI_T (by omega)]
  exact h
theorem j_idiv (X : Cx p l s m args meth c y cc nL ret D ca base) {a b : Int} (ha : -2147483647 ≤ a ∧ a ≤ 2147483647) (hb : 1 ≤ b ∧ b ≤ 2147483647) (d : decode cc pc = .ok (.idiv, 1)) (hq : pc + 1 = q) (kk : J p l e R s m args below meth c Q D base nL k n q lv (.int (iI (a.tdiv b)) :: st) w) : J p l e R s m args below meth c Q D base nL k n pc lv (.int (iI b) :: .int (iI a) :: st) w := by
  subst hq
  intro ls H locs hl hP hS
  exact lv_idiv X.1 X.2.1 d (by rw [iI_z, iI_eq (by omega) (by omega)]; omega) (by have h := kk ls H locs hl hP hS; rwa [show iI (a.tdiv b) = iI a / iI b from Int32.ofInt_tdiv (by show (-2147483648 : Int) ≤ a; omega) ha.2 (by show (-2147483648 : Int) ≤ b; omega) hb.2] at h)
theorem j_ldiv (X : Cx p l s m args meth c y cc nL ret D ca base) {a b : Int} (ha : -9223372036854775808 ≤ a ∧ a ≤ 9223372036854775807) (hb : 1 ≤ b ∧ b ≤ 9223372036854775807) (d : decode cc pc = .ok (.ldiv, 1)) (hq : pc + 1 = q) (kk : J p l e R s m args below meth c Q D base nL k n q lv (.long (iL (a.tdiv b)) :: st) w) : J p l e R s m args below meth c Q D base nL k n pc lv (.long (iL b) :: .long (iL a) :: st) w := by
  subst hq
  intro ls H locs hl hP hS
  exact lv_ldiv X.1 X.2.1 d (fun z => by have := congrArg Int64.toInt z; rw [iL_z, iL_T (by omega), iL_T (by omega)] at this; omega) (by have h := kk ls H locs hl hP hS; rwa [show iL (a.tdiv b) = iL a / iL b from Int64.ofInt_tdiv ha.1 ha.2 (by show (-9223372036854775808 : Int) ≤ b; omega) hb.2] at h)
theorem j_icmp_eq (X : Cx p l s m args meth c y cc nL ret D ca base) {a b off : Int} {tgt : Nat} (d : decode cc pc = .ok (.if_icmp .eq off, 3)) (ht : (pc : Int) + off = (tgt : Int)) (hq : pc + 3 = q) (ha : -2147483648 ≤ a ∧ a ≤ 2147483647) (hb : -2147483648 ≤ b ∧ b ≤ 2147483647) (kt : a = b → J p l e R s m args below meth c Q D base nL k n tgt lv st w) (kf : a ≠ b → J p l e R s m args below meth c Q D base nL k n q lv st w) : J p l e R s m args below meth c Q D base nL k n pc lv (.int (iI b) :: .int (iI a) :: st) w := by
  subst hq
  intro ls H locs hl hP hS
  exact lv_icmp_eq X.1 X.2.1 d ht (fun h => kt ((iI_eq ha hb).mp h) ls H locs hl hP hS) (fun h => kf (fun z => h ((iI_eq ha hb).mpr z)) ls H locs hl hP hS)
theorem j_icmp_ne (X : Cx p l s m args meth c y cc nL ret D ca base) {a b off : Int} {tgt : Nat} (d : decode cc pc = .ok (.if_icmp .ne off, 3)) (ht : (pc : Int) + off = (tgt : Int)) (hq : pc + 3 = q) (ha : -2147483648 ≤ a ∧ a ≤ 2147483647) (hb : -2147483648 ≤ b ∧ b ≤ 2147483647) (kt : a ≠ b → J p l e R s m args below meth c Q D base nL k n tgt lv st w) (kf : a = b → J p l e R s m args below meth c Q D base nL k n q lv st w) : J p l e R s m args below meth c Q D base nL k n pc lv (.int (iI b) :: .int (iI a) :: st) w := by
  subst hq
  intro ls H locs hl hP hS
  exact lv_icmp_ne X.1 X.2.1 d ht (fun h => kt (fun z => h ((iI_eq ha hb).mpr z)) ls H locs hl hP hS) (fun h => kf ((iI_eq ha hb).mp h) ls H locs hl hP hS)
theorem j_icmp_lt (X : Cx p l s m args meth c y cc nL ret D ca base) {a b off : Int} {tgt : Nat} (d : decode cc pc = .ok (.if_icmp .lt off, 3)) (ht : (pc : Int) + off = (tgt : Int)) (hq : pc + 3 = q) (ha : -2147483648 ≤ a ∧ a ≤ 2147483647) (hb : -2147483648 ≤ b ∧ b ≤ 2147483647) (kt : a < b → J p l e R s m args below meth c Q D base nL k n tgt lv st w) (kf : b ≤ a → J p l e R s m args below meth c Q D base nL k n q lv st w) : J p l e R s m args below meth c Q D base nL k n pc lv (.int (iI b) :: .int (iI a) :: st) w := by
  subst hq
  intro ls H locs hl hP hS
  exact lv_icmp_lt X.1 X.2.1 d ht (fun h => kt ((iI_lt ha hb).mp h) ls H locs hl hP hS) (fun h => kf (Int.not_lt.mp fun z => h ((iI_lt ha hb).mpr z)) ls H locs hl hP hS)
theorem j_icmp_ge (X : Cx p l s m args meth c y cc nL ret D ca base) {a b off : Int} {tgt : Nat} (d : decode cc pc = .ok (.if_icmp .ge off, 3)) (ht : (pc : Int) + off = (tgt : Int)) (hq : pc + 3 = q) (ha : -2147483648 ≤ a ∧ a ≤ 2147483647) (hb : -2147483648 ≤ b ∧ b ≤ 2147483647) (kt : b ≤ a → J p l e R s m args below meth c Q D base nL k n tgt lv st w) (kf : a < b → J p l e R s m args below meth c Q D base nL k n q lv st w) : J p l e R s m args below meth c Q D base nL k n pc lv (.int (iI b) :: .int (iI a) :: st) w := by
  subst hq
  intro ls H locs hl hP hS
  exact lv_icmp_ge X.1 X.2.1 d ht (fun h => kt ((iI_le hb ha).mp h) ls H locs hl hP hS) (fun h => kf (Int.not_le.mp fun z => h ((iI_le hb ha).mpr z)) ls H locs hl hP hS)
theorem j_icmp_gt (X : Cx p l s m args meth c y cc nL ret D ca base) {a b off : Int} {tgt : Nat} (d : decode cc pc = .ok (.if_icmp .gt off, 3)) (ht : (pc : Int) + off = (tgt : Int)) (hq : pc + 3 = q) (ha : -2147483648 ≤ a ∧ a ≤ 2147483647) (hb : -2147483648 ≤ b ∧ b ≤ 2147483647) (kt : b < a → J p l e R s m args below meth c Q D base nL k n tgt lv st w) (kf : a ≤ b → J p l e R s m args below meth c Q D base nL k n q lv st w) : J p l e R s m args below meth c Q D base nL k n pc lv (.int (iI b) :: .int (iI a) :: st) w := by
  subst hq
  intro ls H locs hl hP hS
  exact lv_icmp_gt X.1 X.2.1 d ht (fun h => kt ((iI_lt hb ha).mp h) ls H locs hl hP hS) (fun h => kf (Int.not_lt.mp fun z => h ((iI_lt hb ha).mpr z)) ls H locs hl hP hS)
theorem j_icmp_le (X : Cx p l s m args meth c y cc nL ret D ca base) {a b off : Int} {tgt : Nat} (d : decode cc pc = .ok (.if_icmp .le off, 3)) (ht : (pc : Int) + off = (tgt : Int)) (hq : pc + 3 = q) (ha : -2147483648 ≤ a ∧ a ≤ 2147483647) (hb : -2147483648 ≤ b ∧ b ≤ 2147483647) (kt : a ≤ b → J p l e R s m args below meth c Q D base nL k n tgt lv st w) (kf : b < a → J p l e R s m args below meth c Q D base nL k n q lv st w) : J p l e R s m args below meth c Q D base nL k n pc lv (.int (iI b) :: .int (iI a) :: st) w := by
  subst hq
  intro ls H locs hl hP hS
  exact lv_icmp_le X.1 X.2.1 d ht (fun h => kt ((iI_le ha hb).mp h) ls H locs hl hP hS) (fun h => kf (Int.not_le.mp fun z => h ((iI_le ha hb).mpr z)) ls H locs hl hP hS)
theorem jz_eq {a : Int} (ha : -2147483648 ≤ a ∧ a ≤ 2147483647) : iI a = 0 ↔ a = 0 := iI_eq (b := 0) ha (by decide)
theorem jz_lt {a : Int} (ha : -2147483648 ≤ a ∧ a ≤ 2147483647) : iI a < 0 ↔ a < 0 := iI_lt (b := 0) ha (by decide)
theorem jz_le {a : Int} (ha : -2147483648 ≤ a ∧ a ≤ 2147483647) : iI a ≤ 0 ↔ a ≤ 0 := iI_le (b := 0) ha (by decide)
theorem jz_gt {a : Int} (ha : -2147483648 ≤ a ∧ a ≤ 2147483647) : 0 < iI a ↔ 0 < a := iI_lt (a := 0) (by decide) ha
theorem jz_ge {a : Int} (ha : -2147483648 ≤ a ∧ a ≤ 2147483647) : 0 ≤ iI a ↔ 0 ≤ a := iI_le (a := 0) (by decide) ha
theorem j_if_eq (X : Cx p l s m args meth c y cc nL ret D ca base) {a off : Int} {tgt : Nat} (d : decode cc pc = .ok (.ifCond .eq off, 3)) (ht : (pc : Int) + off = (tgt : Int)) (hq : pc + 3 = q) (ha : -2147483648 ≤ a ∧ a ≤ 2147483647) (kt : a = 0 → J p l e R s m args below meth c Q D base nL k n tgt lv st w) (kf : a ≠ 0 → J p l e R s m args below meth c Q D base nL k n q lv st w) : J p l e R s m args below meth c Q D base nL k n pc lv (.int (iI a) :: st) w := by
  subst hq
  intro ls H locs hl hP hS
  exact lv_if_eq X.1 X.2.1 d ht (fun h => kt ((jz_eq ha).mp h) ls H locs hl hP hS) (fun h => kf (fun z => h ((jz_eq ha).mpr z)) ls H locs hl hP hS)
theorem j_if_ne (X : Cx p l s m args meth c y cc nL ret D ca base) {a off : Int} {tgt : Nat} (d : decode cc pc = .ok (.ifCond .ne off, 3)) (ht : (pc : Int) + off = (tgt : Int)) (hq : pc + 3 = q) (ha : -2147483648 ≤ a ∧ a ≤ 2147483647) (kt : a ≠ 0 → J p l e R s m args below meth c Q D base nL k n tgt lv st w) (kf : a = 0 → J p l e R s m args below meth c Q D base nL k n q lv st w) : J p l e R s m args below meth c Q D base nL k n pc lv (.int (iI a) :: st) w := by
  subst hq
  intro ls H locs hl hP hS
  exact lv_if_ne X.1 X.2.1 d ht (fun h => kt (fun z => h ((jz_eq ha).mpr z)) ls H locs hl hP hS) (fun h => kf ((jz_eq ha).mp h) ls H locs hl hP hS)
theorem j_if_lt (X : Cx p l s m args meth c y cc nL ret D ca base) {a off : Int} {tgt : Nat} (d : decode cc pc = .ok (.ifCond .lt off, 3)) (ht : (pc : Int) + off = (tgt : Int)) (hq : pc + 3 = q) (ha : -2147483648 ≤ a ∧ a ≤ 2147483647) (kt : a < 0 → J p l e R s m args below meth c Q D base nL k n tgt lv st w) (kf : 0 ≤ a → J p l e R s m args below meth c Q D base nL k n q lv st w) : J p l e R s m args below meth c Q D base nL k n pc lv (.int (iI a) :: st) w := by
  subst hq
  intro ls H locs hl hP hS
  exact lv_if_lt X.1 X.2.1 d ht (fun h => kt ((jz_lt ha).mp h) ls H locs hl hP hS) (fun h => kf (Int.not_lt.mp fun z => h ((jz_lt ha).mpr z)) ls H locs hl hP hS)
theorem j_if_ge (X : Cx p l s m args meth c y cc nL ret D ca base) {a off : Int} {tgt : Nat} (d : decode cc pc = .ok (.ifCond .ge off, 3)) (ht : (pc : Int) + off = (tgt : Int)) (hq : pc + 3 = q) (ha : -2147483648 ≤ a ∧ a ≤ 2147483647) (kt : 0 ≤ a → J p l e R s m args below meth c Q D base nL k n tgt lv st w) (kf : a < 0 → J p l e R s m args below meth c Q D base nL k n q lv st w) : J p l e R s m args below meth c Q D base nL k n pc lv (.int (iI a) :: st) w := by
  subst hq
  intro ls H locs hl hP hS
  exact lv_if_ge X.1 X.2.1 d ht (fun h => kt ((jz_ge ha).mp h) ls H locs hl hP hS) (fun h => kf (Int.not_le.mp fun z => h ((jz_ge ha).mpr z)) ls H locs hl hP hS)
theorem j_if_gt (X : Cx p l s m args meth c y cc nL ret D ca base) {a off : Int} {tgt : Nat} (d : decode cc pc = .ok (.ifCond .gt off, 3)) (ht : (pc : Int) + off = (tgt : Int)) (hq : pc + 3 = q) (ha : -2147483648 ≤ a ∧ a ≤ 2147483647) (kt : 0 < a → J p l e R s m args below meth c Q D base nL k n tgt lv st w) (kf : a ≤ 0 → J p l e R s m args below meth c Q D base nL k n q lv st w) : J p l e R s m args below meth c Q D base nL k n pc lv (.int (iI a) :: st) w := by
  subst hq
  intro ls H locs hl hP hS
  exact lv_if_gt X.1 X.2.1 d ht (fun h => kt ((jz_gt ha).mp h) ls H locs hl hP hS) (fun h => kf (Int.not_lt.mp fun z => h ((jz_gt ha).mpr z)) ls H locs hl hP hS)
theorem j_if_le (X : Cx p l s m args meth c y cc nL ret D ca base) {a off : Int} {tgt : Nat} (d : decode cc pc = .ok (.ifCond .le off, 3)) (ht : (pc : Int) + off = (tgt : Int)) (hq : pc + 3 = q) (ha : -2147483648 ≤ a ∧ a ≤ 2147483647) (kt : a ≤ 0 → J p l e R s m args below meth c Q D base nL k n tgt lv st w) (kf : 0 < a → J p l e R s m args below meth c Q D base nL k n q lv st w) : J p l e R s m args below meth c Q D base nL k n pc lv (.int (iI a) :: st) w := by
  subst hq
  intro ls H locs hl hP hS
  exact lv_if_le X.1 X.2.1 d ht (fun h => kt ((jz_le ha).mp h) ls H locs hl hP hS) (fun h => kf (Int.not_le.mp fun z => h ((jz_le ha).mpr z)) ls H locs hl hP hS)
theorem j_goto (X : Cx p l s m args meth c y cc nL ret D ca base) {off : Int} {tgt : Nat} (d : decode cc pc = .ok (.goto off, 3)) (ht : (pc : Int) + off = (tgt : Int)) (kk : J p l e R s m args below meth c Q D base nL k n tgt lv st w) : J p l e R s m args below meth c Q D base nL k n pc lv st w :=
  fun ls H locs hl hP hS => lv_goto X.1 X.2.1 d ht (kk ls H locs hl hP hS)
theorem j_ifnull (X : Cx p l s m args meth c y cc nL ret D ca base) {r : Option Nat} {off : Int} {tgt : Nat} (d : decode cc pc = .ok (.ifnull off, 3)) (ht : (pc : Int) + off = (tgt : Int)) (hq : pc + 3 = q) (kt : r = none → J p l e R s m args below meth c Q D base nL k n tgt lv st w) (kf : ∀ a, r = some a → J p l e R s m args below meth c Q D base nL k n q lv st w) : J p l e R s m args below meth c Q D base nL k n pc lv (va_rf r :: st) w := by
  subst hq
  intro ls H locs hl hP hS
  cases r with
  | none => exact lv_ifnullN X.1 X.2.1 d ht (kt rfl ls H locs hl hP hS)
  | some a => exact lv_ifnull X.1 X.2.1 d (kf a rfl ls H locs hl hP hS)
theorem j_ifnonnull (X : Cx p l s m args meth c y cc nL ret D ca base) {r : Option Nat} {off : Int} {tgt : Nat} (d : decode cc pc = .ok (.ifnonnull off, 3)) (ht : (pc : Int) + off = (tgt : Int)) (hq : pc + 3 = q) (kt : ∀ a, r = some a → J p l e R s m args below meth c Q D base nL k n tgt lv st w) (kf : r = none → J p l e R s m args below meth c Q D base nL k n q lv st w) : J p l e R s m args below meth c Q D base nL k n pc lv (va_rf r :: st) w := by
  subst hq
  intro ls H locs hl hP hS
  cases r with
  | none => exact lv_ifnonnullN X.1 X.2.1 d (kf rfl ls H locs hl hP hS)
  | some a => exact lv_ifnonnull X.1 X.2.1 d ht (kt a rfl ls H locs hl hP hS)
theorem j_acmp_ne (X : Cx p l s m args meth c y cc nL ret D ca base) {ra rb : Option Nat} {off : Int} {tgt : Nat} (d : decode cc pc = .ok (.if_acmp .ne off, 3)) (ht : (pc : Int) + off = (tgt : Int)) (hq : pc + 3 = q) (kt : ¬ ra = rb → J p l e R s m args below meth c Q D base nL k n tgt lv st w) (kf : ra = rb → J p l e R s m args below meth c Q D base nL k n q lv st w) : J p l e R s m args below meth c Q D base nL k n pc lv (va_rf rb :: va_rf ra :: st) w := by
  subst hq
  intro ls H locs hl hP hS
  exact lv_acmp_ne X.1 X.2.1 d ht (fun h => kt h ls H locs hl hP hS) (fun h => kf h ls H locs hl hP hS)
theorem j_get (X : Cx p l s m args meth c y cc nL ret D ca base) {idx ci f : Nat} {a : Nat} {fs : List Value} {v : Value} (hf : FL y.cls idx ci f) (he : w a = some (.inr (ci, fs))) (hv : fs[f]? = some v) (d : decode cc pc = .ok (.getfield idx, 3)) (hq : pc + 3 = q) (kk : J p l e R s m args below meth c Q D base nL k n q lv (v :: st) w) : J p l e R s m args below meth c Q D base nL k n pc lv (.ref a :: st) w := by
  subst hq
  intro ls H locs hl hP hS
  obtain ⟨C, T, N, hc, hk, hlink, hC, hin⟩ := hf
  obtain ⟨hx, hb, -, hown, hts, hG, -⟩ := X
  refine va_get (D := D) (ci := ci) (v := v) hx hb hts hin hown hG.1 (hP.one he) 0 rfl hc f hk (hts _ hlink) (fun x h => by rw [← hC]; exact h) hv d (kk ls H locs hl hP hS)
theorem j_put (X : Cx p l s m args meth c y cc nL ret D ca base) {idx ci f : Nat} {a : Nat} {fs : List Value} {v : Value} {ty : FieldType} (hf : FP y.cls idx ci f ty false) (he : w a = some (.inr (ci, fs))) (hl9 : f < fs.length) (hn : narrow ty v = v) (hfit : fits ty v = true) (hba : base ≤ a) (d : decode cc pc = .ok (.putfield idx, 3)) (hq : pc + 3 = q) (kk : J p l e R s m args below meth c Q D base nL k n q lv st (wu w a (.inr (ci, fs.set f v)))) : J p l e R s m args below meth c Q D base nL k n pc lv (v :: .ref a :: st) w := by
  subst hq
  intro ls H locs hl hP hS
  obtain ⟨C, T, N, ty0, hc, hk, hlink, hC, hin, hty, hnm, hfin, hd⟩ := hf
  obtain ⟨hx, hb, -, hown, hts, hG, -⟩ := X
  have hK := hG.1
  have hap := va_apart (own := y.cls) hts hin ty0 hty hnm hK hc
  obtain ⟨r, h1, cell, q1, q2, q3, q4⟩ := hP a _ he
  have hr : r = (C, T, N) := Option.some.inj (h1.symm.trans hc)
  subst hr
  obtain ⟨hSl, hfc, kC, hkC, hkind⟩ := hK.1 ci _ hc
  obtain ⟨cf, kf, fi, fd, hi, hsl⟩ := hSl f hk
  have hlay := hts _ (hin _ (u_in_lay hk))
  unfold u_lay at hlay
  rw [if_neg (by rw [hfin]; decide)] at hlay
  have hst := (u_facts hfc hkC (u_lays hts hin hk) hi).1
  have h6 := u_store hfc hkC hkind hlay hi hd hn hfit
  refine W.putK hx hb (f := fd) ⟨hown, hts _ hlink, ⟨_, _, _, by rw [hC] at hi; exact hi⟩, hst⟩ (by rw [q2]; exact h6) q1 q3 (by rw [hsl]; exact k2_hasslot (q4 f hk)) rfl rfl d fun H' e1 e2 e3 => ?_
  rw [hsl] at e1 ⊢
  exact kk ls H' _ hl (hP.set ⟨_, hc, t_OB.to (V := updV (vp_V fs) f v) ⟨_, e1, q2, q3, t_set q4 hap hk v⟩ (fun j _ => vp_updV_set hl9 v j)⟩ e3) (hS.put e2 e3 hba)
theorem j_putF (X : Cx p l s m args meth c y cc nL ret D ca base) {idx ci f : Nat} {a : Nat} {fs : List Value} {v : Value} {ty : FieldType} (hf : FP y.cls idx ci f ty true) (hyi : y.name = "<init>") (hyc : vwCl[ci]?.map (fun q => q.1) = some y.cls) (he : w a = some (.inr (ci, fs))) (hl9 : f < fs.length) (hn : narrow ty v = v) (hfit : fits ty v = true) (hba : base ≤ a) (d : decode cc pc = .ok (.putfield idx, 3)) (hq : pc + 3 = q) (kk : J p l e R s m args below meth c Q D base nL k n q lv st (wu w a (.inr (ci, fs.set f v)))) : J p l e R s m args below meth c Q D base nL k n pc lv (v :: .ref a :: st) w := by
  subst hq
  intro ls H locs hl hP hS
  obtain ⟨C, T, N, ty0, hc, hk, hlink, hC, hin, hty, hnm, hfin, hd⟩ := hf
  obtain ⟨hx, hb, -, hown, hts, hG, -, -, -, hmn⟩ := X
  have hyC : C = y.cls := by rw [hc] at hyc; exact Option.some.inj hyc
  have hK := hG.1
  have hap := va_apart (own := y.cls) hts hin ty0 hty hnm hK hc
  obtain ⟨r, h1, cell, q1, q2, q3, q4⟩ := hP a _ he
  have hr : r = (C, T, N) := Option.some.inj (h1.symm.trans hc)
  subst hr
  obtain ⟨hSl, hfc, kC, hkC, hkind⟩ := hK.1 ci _ hc
  obtain ⟨cf, kf, fi, fd, hi, hsl⟩ := hSl f hk
  have hlay := hts _ (hin _ (u_in_lay hk))
  unfold u_lay at hlay
  rw [if_pos hfin] at hlay
  have hst := (u_facts hfc hkC (u_lays hts hin hk) hi).1
  have hcf : m.cls = cf := by
    obtain ⟨_, _, c', _, _, _, -, -, hf', -, -, -, hown2, -⟩ := Cond.laysFinal_spec hlay
    have e1 : c' = cf := by have := hi.symm.trans hf'; simp at this; exact this.1.symm
    rw [hC, hyC] at hown2
    rw [← e1]; exact Option.some.inj (hown.symm.trans hown2)
  have h6 := u_fits hfc hkC hkind (Or.inr hlay) hi hd hn hfit
  refine W.putFinK hx hb hown (hts _ hlink) (by rw [hC] at hi; exact hi) hst hcf (hmn.trans hyi) (by rw [q2]; exact h6) q1 q3 (by rw [hsl]; exact k2_hasslot (q4 f hk)) rfl rfl d fun H' e1 e2 e3 => ?_
  rw [hsl] at e1 ⊢
  exact kk ls H' _ hl (hP.set ⟨_, hc, t_OB.to (V := updV (vp_V fs) f v) ⟨_, e1, q2, q3, t_set q4 hap hk v⟩ (fun j _ => vp_updV_set hl9 v j)⟩ e3) (hS.put e2 e3 hba)
theorem j_new (X : Cx p l s m args meth c y cc nL ret D ca base) {idx ci N : Nat} {fs : List Value} (hf : NW y.cls idx ci N fs) (hck : k + 1 ≤ R.cells) (hcn : n + N ≤ R.slots) (d : decode cc pc = .ok (.new idx, 3)) (hq : pc + 3 = q) (kk : ∀ a : Nat, base ≤ a → w a = none → J p l e R s m args below meth c Q D base nL (k + 1) (n + N) q lv (.ref a :: st) (wu w a (.inr (ci, fs)))) : J p l e R s m args below meth c Q D base nL k n pc lv st w := by
  subst hq
  intro ls H locs hl hP hS
  obtain ⟨C, T, ty0, hc, hin, hty, hcl, hinst, hini, hfs⟩ := hf
  obtain ⟨hx, hb, -, hown, hts, hG, -⟩ := X
  have hKn := hG.1.1 ci _ hc
  refine W.newcK hx hb hown (hts _ hcl) (hts _ hinst) (hts _ hini) rfl d hck hcn hKn.2.1 rfl fun H1 kC hkC e1 z1 o1 => ?_
  exact kk H.size (Nat.le_trans hG.2.1 hS.1) hP.fresh ls H1 _ hl (hP.push ⟨_, hc, (u_born ty0 hts hin hKn hkC e1 hty).to hfs⟩ o1) ⟨Nat.le_trans hS.1 (by omega), fun x h1 h2 => (o1 x (Nat.lt_of_lt_of_le h1 hS.1)).trans (hS.2.1 x h1 h2), hS.2.2⟩
theorem j_ty {U : State} (h : va_K D vwCl (tysOf ca) U) (t : Nat) {cA : ClassId} {ty : FieldType} (ht : (tysOf ca)[t]? = some (cA, ty)) : ArrOfT U cA ty := (h.2 t _ ht).1
theorem j_iald (X : Cx p l s m args meth c y cc nL ret D ca base) {a N : Nat} {f : Nat → Int32} {i : Int} (he : w a = some (.inl (ca 0, N, .inl f))) (hi : 0 ≤ i ∧ i < (N : Int)) (hN : N < 2147483648) (d : decode cc pc = .ok (.iaload, 1)) (hq : pc + 1 = q) (kk : J p l e R s m args below meth c Q D base nL k n q lv (.int (f i.toNat) :: st) w) : J p l e R s m args below meth c Q D base nL k n pc lv (.int (iI i) :: .ref a :: st) w := by
  subst hq
  intro ls H locs hl hP hS
  obtain ⟨hx, hb, -, -, -, hG, -⟩ := X
  refine va_iald (D := D) hx hb hG.1 (hP.one he) 0 0 rfl rfl (iI_in hi hN) d ?_
  rw [iI_cl (by omega)]
  exact (kk ls H locs hl hP hS)
theorem j_zald (X : Cx p l s m args meth c y cc nL ret D ca base) {a N : Nat} {f : Nat → Int32} {i : Int} (he : w a = some (.inl (ca 1, N, .inl f))) (hi : 0 ≤ i ∧ i < (N : Int)) (hN : N < 2147483648) (d : decode cc pc = .ok (.baload, 1)) (hq : pc + 1 = q) (kk : J p l e R s m args below meth c Q D base nL k n q lv (.int (f i.toNat) :: st) w) : J p l e R s m args below meth c Q D base nL k n pc lv (.int (iI i) :: .ref a :: st) w := by
  subst hq
  intro ls H locs hl hP hS
  obtain ⟨hx, hb, -, -, -, hG, -⟩ := X
  refine va_zald (D := D) hx hb hG.1 (hP.one he) 0 1 rfl rfl (iI_in hi hN) d ?_
  rw [iI_cl (by omega)]
  exact (kk ls H locs hl hP hS)
theorem j_lald (X : Cx p l s m args meth c y cc nL ret D ca base) {a N : Nat} {f : Nat → Int64} {i : Int} (he : w a = some (.inl (ca 5, N, .inr (.inl f)))) (hi : 0 ≤ i ∧ i < (N : Int)) (hN : N < 2147483648) (d : decode cc pc = .ok (.laload, 1)) (hq : pc + 1 = q) (kk : J p l e R s m args below meth c Q D base nL k n q lv (.long (f i.toNat) :: st) w) : J p l e R s m args below meth c Q D base nL k n pc lv (.int (iI i) :: .ref a :: st) w := by
  subst hq
  intro ls H locs hl hP hS
  obtain ⟨hx, hb, -, -, -, hG, -⟩ := X
  refine va_lald (D := D) hx hb hG.1 (hP.one he) 0 5 rfl rfl (iI_in hi hN) d ?_
  rw [iI_cl (by omega)]
  exact (kk ls H locs hl hP hS)
theorem j_dald (X : Cx p l s m args meth c y cc nL ret D ca base) {a N : Nat} {f : Nat → UInt64} {i : Int} (he : w a = some (.inl (ca 6, N, .inr (.inr (.inr (.inl f)))))) (hi : 0 ≤ i ∧ i < (N : Int)) (hN : N < 2147483648) (d : decode cc pc = .ok (.daload, 1)) (hq : pc + 1 = q) (kk : J p l e R s m args below meth c Q D base nL k n q lv (.double (f i.toNat) :: st) w) : J p l e R s m args below meth c Q D base nL k n pc lv (.int (iI i) :: .ref a :: st) w := by
  subst hq
  intro ls H locs hl hP hS
  obtain ⟨hx, hb, -, -, -, hG, -⟩ := X
  refine va_dald (D := D) hx hb hG.1 (hP.one he) 0 6 rfl rfl (iI_in hi hN) d ?_
  rw [iI_cl (by omega)]
  exact (kk ls H locs hl hP hS)
theorem j_aald (X : Cx p l s m args meth c y cc nL ret D ca base) {a N t : Nat} {C : String} {f : Nat → Option Nat} {i : Int} (ht : (tysOf ca)[t]? = some (ca t, .object C)) (he : w a = some (.inl (ca t, N, .inr (.inr (.inr (.inr f)))))) (hi : 0 ≤ i ∧ i < (N : Int)) (hN : N < 2147483648) (d : decode cc pc = .ok (.aaload, 1)) (hq : pc + 1 = q) (kk : J p l e R s m args below meth c Q D base nL k n q lv (va_rf (f i.toNat) :: st) w) : J p l e R s m args below meth c Q D base nL k n pc lv (.int (iI i) :: .ref a :: st) w := by
  subst hq
  intro ls H locs hl hP hS
  obtain ⟨hx, hb, -, -, -, hG, -⟩ := X
  refine va_aldq (D := D) hx hb hG.1 (hP.one he) 0 t rfl ht (iI_in hi hN) d ?_
  rw [iI_cl (by omega)]
  exact (kk ls H locs hl hP hS)
theorem j_alen (X : Cx p l s m args meth c y cc nL ret D ca base) {a N t : Nat} {ty : FieldType} {x : vp_A} (ht : (tysOf ca)[t]? = some (ca t, ty)) (he : w a = some (.inl (ca t, x))) (hx1 : x.1 = N) (d : decode cc pc = .ok (.arraylength, 1)) (hq : pc + 1 = q) (kk : J p l e R s m args below meth c Q D base nL k n q lv (.int (iI N) :: st) w) : J p l e R s m args below meth c Q D base nL k n pc lv (.ref a :: st) w := by
  subst hq
  intro ls H locs hl hP hS
  obtain ⟨hx, hb, -, -, -, hG, -⟩ := X
  refine va_alen (D := D) (v := iI N) hx hb hG.1 (hP.one he) 0 t rfl ht (by rw [hx1]; exact (Int32.ofInt_eq_ofNat (n := N)).symm) d (kk ls H locs hl hP hS)
theorem hSput_ {s : State} {H H1 : Heap} {locs : List Loc} : True := trivial
theorem j_iast (X : Cx p l s m args meth c y cc nL ret D ca base) {a N : Nat} {f : Nat → Int32} {i : Int} {x : Int32} (he : w a = some (.inl (ca 0, N, .inl f))) (hi : 0 ≤ i ∧ i < (N : Int)) (hN : N < 2147483648) (hba : base ≤ a) (d : decode cc pc = .ok (.iastore, 1)) (hq : pc + 1 = q) (kk : J p l e R s m args below meth c Q D base nL k n q lv st (wu w a (.inl (ca 0, N, .inl (va_up f i.toNat x))))) : J p l e R s m args below meth c Q D base nL k n pc lv (.int x :: .int (iI i) :: .ref a :: st) w := by
  subst hq
  intro ls H locs hl hP hS
  obtain ⟨hx, hb, -, -, -, hG, -⟩ := X
  have hin := iI_in hi hN
  refine W.iast hx hb (hP a _ he) ((hG.1.2 0 _ rfl).1 N (fun j => .int (f j))) (fun z => by cases z) (by show ¬ (_ < 0 ∨ (arrV _ _ _).slots.size ≤ _); rw [arrV_size]; exact hin) rfl rfl d fun H1 e z oq => ?_
  refine kk ls H1 _ hl (hP.set ?_ oq) (hS.put z oq hba)
  show H1[a]? = some (vp_cell _ _)
  rw [e, vp_cell_i, vp_cell_i, arrV_store]
  congr 2
  funext z
  rw [iI_cl (by omega)]
  by_cases hq : z = i.toNat
  · subst hq
    simp [updV, va_up]
  · simp [updV, va_up, hq]
theorem j_last (X : Cx p l s m args meth c y cc nL ret D ca base) {a N : Nat} {f : Nat → Int64} {i : Int} {x : Int64} (he : w a = some (.inl (ca 5, N, .inr (.inl f)))) (hi : 0 ≤ i ∧ i < (N : Int)) (hN : N < 2147483648) (hba : base ≤ a) (d : decode cc pc = .ok (.lastore, 1)) (hq : pc + 1 = q) (kk : J p l e R s m args below meth c Q D base nL k n q lv st (wu w a (.inl (ca 5, N, .inr (.inl (va_up f i.toNat x)))))) : J p l e R s m args below meth c Q D base nL k n pc lv (.long x :: .int (iI i) :: .ref a :: st) w := by
  subst hq
  intro ls H locs hl hP hS
  obtain ⟨hx, hb, -, -, -, hG, -⟩ := X
  have hin := iI_in hi hN
  refine W.last hx hb (hP a _ he) ((hG.1.2 5 _ rfl).1 N (fun j => .long (f j))) (fun z => by cases z) (by show ¬ (_ < 0 ∨ (arrV _ _ _).slots.size ≤ _); rw [arrV_size]; exact hin) rfl rfl d fun H1 e z oq => ?_
  refine kk ls H1 _ hl (hP.set ?_ oq) (hS.put z oq hba)
  show H1[a]? = some (vp_cell _ _)
  rw [e, vp_cell_l, vp_cell_l, arrV_store]
  congr 2
  funext z
  rw [iI_cl (by omega)]
  by_cases hq : z = i.toNat
  · subst hq
    simp [updV, va_up]
  · simp [updV, va_up, hq]
theorem j_dast (X : Cx p l s m args meth c y cc nL ret D ca base) {a N : Nat} {f : Nat → UInt64} {i : Int} {x : UInt64} (he : w a = some (.inl (ca 6, N, .inr (.inr (.inr (.inl f)))))) (hi : 0 ≤ i ∧ i < (N : Int)) (hN : N < 2147483648) (hba : base ≤ a) (d : decode cc pc = .ok (.dastore, 1)) (hq : pc + 1 = q) (kk : J p l e R s m args below meth c Q D base nL k n q lv st (wu w a (.inl (ca 6, N, .inr (.inr (.inr (.inl (va_up f i.toNat x)))))))) : J p l e R s m args below meth c Q D base nL k n pc lv (.double x :: .int (iI i) :: .ref a :: st) w := by
  subst hq
  intro ls H locs hl hP hS
  obtain ⟨hx, hb, -, -, -, hG, -⟩ := X
  have hin := iI_in hi hN
  refine W.dast hx hb (hP a _ he) ((hG.1.2 6 _ rfl).1 N (fun j => .double (f j))) (fun z => by cases z) (by show ¬ (_ < 0 ∨ (arrV _ _ _).slots.size ≤ _); rw [arrV_size]; exact hin) rfl rfl d fun H1 e z oq => ?_
  refine kk ls H1 _ hl (hP.set ?_ oq) (hS.put z oq hba)
  show H1[a]? = some (vp_cell _ _)
  rw [e, vp_cell_d, vp_cell_d, arrV_store]
  congr 2
  funext z
  rw [iI_cl (by omega)]
  by_cases hq : z = i.toNat
  · subst hq
    simp [updV, va_up]
  · simp [updV, va_up, hq]
end JROWS
end
section
/-! ===== BEGIN a constructor that throws (launches without stack traces) ===== -/
section VXIA
variable {p : Program} {l : Launch} {e : Env} {R : Room} {s : State} {m : MethodId} {args : Array Value} {below : List Frame} {meth : Method} {c : Code} {T : State} {locs : List Loc} {cells slots : Nat}
theorem vx_callI (X : Stand p l e R s m args below meth c T locs cells slots) (hexec : p.tables.exec = Jvm.exec) {own : String} {index : Nat} {y : MethodName} {bytes : ByteArray} {maxL : Nat}
    (hown : s.vm.findClass own = some m.cls) (hy1 : y.name = "<init>") (hlink : (Cond.methodLink own index y).before args s = true) (hinst : (Cond.instanceMethod y).before args s = true)
    (hcode : (Cond.code y bytes maxL none).before args s = true) (hy : y.cls ≠ "java/lang/invoke/MethodHandle" ∧ y.cls ≠ "java/lang/invoke/VarHandle")
    {W9 : Nat} {Pre : Pt → Array Value → Prop} {Post : Pt → Array Value → Option Value → Pt → Prop} {PostX : Pt → Array Value → Addr → Pt → Prop} (hK : vx_Back l R p e below s args y 3 W9 Pre Post PostX)
    {g : JFrame} (hg : g.method = m) (hsize : g.locals.size = c.maxLocals) {a : Addr} {argsL rest : List Value} (hlen : ∀ sig, parseMethodDescriptor y.desc = some sig → argsL.length = sig.parameters.length)
    (hstack : g.stack = argsL.reverse ++ .ref a :: rest) (hW : 2 * g.monitorRoom + (rest.map fun v => v.category).sum ≤ W9) (hdg : decode c.code g.pc = .ok (.invokespecial index, 3))
    (hpre : ∀ vm₁, s.WarmedH vm₁ → Pre ⟨T.setVm vm₁, locs, cells, slots⟩ (Value.ref a :: argsL).toArray) :
    (∃ (v : Option Value) (vm₁ : Vm) (B : Pt), s.WarmedH vm₁ ∧ Stand p l e R s m args below meth c B.U B.locs B.cells B.slots ∧ Post ⟨T.setVm vm₁, locs, cells, slots⟩ (Value.ref a :: argsL).toArray v B ∧
      ∀ target, Steps p.tables e below (B.U.setTop { g with pc := g.pc + 3, stack := v.toList ++ rest }) target → Steps p.tables e below (T.setTop g) target) ∨
    (∃ (q : Addr) (vm₁ : Vm) (B : Pt), s.WarmedH vm₁ ∧ Stand p l e R s m args below meth c B.U B.locs B.cells B.slots ∧ PostX ⟨T.setVm vm₁, locs, cells, slots⟩ (Value.ref a :: argsL).toArray q B ∧
      Steps p.tables e below (T.setTop g) ((B.U.setTop { g with stack := rest }).pushFrame (.throwing q))) := by
  subst hg
  have hpl : e.platform.magicAccessors = ({} : Platform).magicAccessors := by rw [X.admits.platform]
  obtain ⟨mk, methM, cM, kP, vm₁, hnamed, hmethM, hcodeM, -, hlocalsM, -, hkP, -, hW₁, hstep₁⟩ := Steps.initColdArgs (e := e) X.here hexec X.warmed hpl hown hy1 hy hlink hinst hcode (f := g) rfl hlen hstack hdg
  have X₁ := X.noted hW₁
  rcases hK g.method meth c ⟨T.setVm vm₁, locs, cells, slots⟩ { g with stack := rest } (.invokespecial index) mk (Value.ref a :: argsL).toArray X₁ rfl hsize hdg hW (X₁.named hnamed) (hpre vm₁ X₁.warmed) with ⟨v, B, X', hpost, hsteps⟩ | ⟨q, B, X', hpost, hsteps⟩
  · exact Or.inl ⟨v, vm₁, B, X₁.warmed, X', hpost, fun target h => hstep₁ _ fun acts => by rw [doInvoke_state]; exact hsteps.trans h⟩
  · exact Or.inr ⟨q, vm₁, B, X₁.warmed, X', hpost, hstep₁ _ fun acts => by rw [doInvoke_state]; exact hsteps⟩
end VXIA
section VXIB
variable {p : Program} {l : Launch} {e : Env} {R : Room} {s : State} {m : MethodId} {args : Array Value} {below : List Frame} {meth : Method} {c : Code} {H : Heap} {locs : List Loc} {cells slots : Nat}
variable {y : MethodName} {bytes cc : ByteArray} {maxL nL mc ms n index : Nat} {ret : Option FieldType} {ws : List Cond} {rm : Room} {Pc : Array Value → State → Prop} {Qc : Array Value → State → Outcome → State → Prop} {XC : String → State → State → Prop} {free : Addr → Prop} {Ts : List Cond} {own C : String} {b : Addr} {As rest : List Value} {g : JFrame}
theorem vx_runI (S : CallFix p m c cc nL s args Ts own) (hM : vx_Met l y ws rm Pc Qc XC mc ms free) (cw : CallB R s args own index y bytes maxL none ws rm mc ms n ∧ y.name = "<init>" ∧ (Cond.instanceMethod y).before args s = true) (hp : PreS s H Pc (.ref b :: As))
    (hg : g.method = m) (hn : As.length = n) (hsize : g.locals.size = nL) (hstack : g.stack = As.reverse ++ .ref b :: rest) (hW : 2 * g.monitorRoom + (rest.map fun v => v.category).sum ≤ 8) (hdg : decode cc g.pc = .ok (.invokespecial index, 3)) (hf : cells + mc ≤ R.cells ∧ slots + ms ≤ R.slots) :
    vx_Run p l e R s m args below meth c H locs cells slots mc ms g rest (Qc (Value.ref b :: As).toArray) XC free := by
  have hK : vx_Back l R p e below s args y 3 8 (PreOf R mc ms Pc) (PostOf Qc mc ms free) (vx_Post XC mc ms free) := vx_callBack cw.1 hM hp.1
  obtain ⟨⟨-, -, -, -, -, -, hcode, -, hy, hlen, hl⟩, hy1, hin⟩ := cw
  obtain ⟨hx, hb, hml, ho, -⟩ := S
  have hPc := hp.2
  intro T hT X
  rcases vx_callI X hx (bytes := bytes) (maxL := maxL) ho hy1 hl hin hcode hy hK hg (hsize.trans hml.symm) (a := b) (argsL := As) (rest := rest) (fun sig h => hn.trans (hlen sig h)) hstack hW (by rw [hb]; exact hdg)
    (fun vm₁ hW₁ => ⟨hf.1, hf.2, hPc (T.setVm vm₁) hT hW₁⟩) with ⟨v, vm₁, ⟨U', l2, c2, s2⟩, hW₁, X', ⟨g', mk, t, L, e1, e2, hq, h1, hL, h2, h3⟩, st⟩ | ⟨q, vm₁, ⟨U', l2, c2, s2⟩, hW₁, X', ⟨g', mk, t, L, E, ce, e1, e2, hq, hce, hcv, hcl, h1, hL, h2, h3⟩, st⟩
  · dsimp only [Pt.U, Pt.locs, Pt.cells, Pt.slots] at X' e1 e2 h1 h2 h3 st
    subst h1; subst h2; subst h3
    exact Or.inl ⟨v, (T.setVm vm₁).calling g' mk (Value.ref b :: As).toArray, t, U', L, hT, X', hL, e1, e2, hq, st⟩
  · dsimp only [Pt.U, Pt.locs, Pt.cells, Pt.slots] at X' e1 e2 h1 h2 h3 st hcl
    subst h1; subst h2; subst h3
    exact Or.inr ⟨q, (T.setVm vm₁).calling g' mk (Value.ref b :: As).toArray, t, U', L, E, ce, hT, X', hL, e1, e2, hq, hce, hcv, vx_cls hW₁ hcl, st⟩
end VXIB
/-! ===== END ===== -/
section JROWS2
variable {p : Program} {l : Launch} {e : Env} {R : Room} {s : State} {m : MethodId} {args : Array Value} {below : List Frame} {meth : Method} {c : Code} {Q : State → Prop} {D : va_G} {ca : Nat → ClassId} {base nL k n pc q : Nat} {lv lv' : List (Nat × Value)} {st : List Value} {w : Wd} {y : MethodName} {cc : ByteArray} {ret : Option FieldType}
def cmpI (a b : Int) : Int := if b < a then 1 else if a = b then 0 else -1
theorem cmpI_r (a b : Int) : -2147483648 ≤ cmpI a b ∧ cmpI a b ≤ 2147483647 := by
  unfold cmpI
  split
  · decide
  · split <;> decide
theorem cmpI_0 {a b : Int} : cmpI a b = 0 ↔ a = b := by
  unfold cmpI
  split
  · constructor <;> intro h <;> omega
  · split
    · simp_all
    · constructor <;> intro h <;> omega
theorem cmpI_le {a b : Int} : cmpI a b ≤ 0 ↔ a ≤ b := by
  unfold cmpI
  split
  · constructor <;> intro h <;> omega
  · split <;> constructor <;> intro h <;> omega
theorem cmpI_ge {a b : Int} : 0 ≤ cmpI a b ↔ b ≤ a := by
  unfold cmpI
  split
  · constructor <;> intro h <;> omega
  · split <;> constructor <;> intro h <;> omega
theorem cmpI_gt {a b : Int} : 0 < cmpI a b ↔ b < a := by
  unfold cmpI
  split
  · constructor <;> intro h <;> omega
  · split <;> constructor <;> intro h <;> omega
theorem cmpI_lt {a b : Int} : cmpI a b < 0 ↔ a < b := by
  unfold cmpI
  split
  · constructor <;> intro h <;> omega
  · split <;> constructor <;> intro h <;> omega
theorem lg_cmpI {a b : Int} (ha : -9223372036854775808 ≤ a ∧ a ≤ 9223372036854775807) (hb : -9223372036854775808 ≤ b ∧ b ≤ 9223372036854775807) : lg_cmp (iL a) (iL b) = iI (cmpI a b) := by
  unfold lg_cmp cmpI
  have h1 : (iL a > iL b) ↔ b < a := iL_lt hb ha
  have h2 : (iL a = iL b) ↔ a = b := ⟨fun h => by have := congrArg Int64.toInt h; rwa [iL_T ha, iL_T hb] at this, fun h => by rw [h]⟩
  by_cases c1 : b < a
  · rw [if_pos (h1.mpr c1), if_pos c1]
    rfl
  · rw [if_neg (fun z => c1 (h1.mp z)), if_neg c1]
    by_cases c2 : a = b
    · rw [if_pos (h2.mpr c2), if_pos c2]
      rfl
    · rw [if_neg (fun z => c2 (h2.mp z)), if_neg c2]
      rfl
theorem iI_nI (x : Nat) : iI (x : Int) = nI x := Int32.ofInt_eq_ofNat
theorem iL_tmod {a b : Int} (ha : -9223372036854775808 ≤ a ∧ a ≤ 9223372036854775807) (hb : 1 ≤ b ∧ b ≤ 9223372036854775807) : iL (a.tmod b) = iL a - iL a / iL b * iL b := by
  have h1 : iL (a.tdiv b) = iL a / iL b := Int64.ofInt_tdiv ha.1 ha.2 (by show (-9223372036854775808 : Int) ≤ b; omega) hb.2
  rw [← h1, Int.tmod_def, Int.mul_comm b]
  show Int64.ofInt (a - a.tdiv b * b) = _
  rw [Int64.ofInt_sub, Int64.ofInt_mul]
theorem iI_shl1 : ∀ k : Nat, k < 31 → iI 1 <<< (iI (k : Int) &&& 31) = iI ((2 ^ k : Nat) : Int) := by decide +kernel
theorem iI_shr {x k : Nat} (hx : x < 2147483648) (hk : k < 32) : iI (x : Int) >>> (iI (k : Int) &&& 31) = iI ((x / 2 ^ k : Nat) : Int) := by
  rw [iI_nI, iI_nI, iI_nI]
  have h : ∀ k : Nat, k < 32 → ((nI k &&& 31).toBitVec.smod 32).toNat = k := by decide +kernel
  exact pk_shrN hx _ k (h k hk)
theorem iI_and1 {x : Nat} (hx : x < 2147483648) : iI (x : Int) &&& iI 1 = iI ((x % 2 : Nat) : Int) := by
  rw [iI_nI, iI_nI]
  exact pk_andN (by omega) 1 rfl
theorem iI_or (a b : Nat) : iI (a : Int) ||| iI (b : Int) = iI ((a ||| b : Nat) : Int) := by
  rw [iI_nI, iI_nI, iI_nI]
  apply Int32.toBitVec.inj
  rw [Int32.toBitVec_or]
  show BitVec.ofNat 32 a ||| BitVec.ofNat 32 b = BitVec.ofNat 32 (a ||| b)
  apply BitVec.eq_of_toNat_eq
  simp only [BitVec.toNat_or, BitVec.toNat_ofNat]
  exact (Nat.or_mod_two_pow).symm
theorem j_lcmp (X : Cx p l s m args meth c y cc nL ret D ca base) {a b : Int} (ha : -9223372036854775808 ≤ a ∧ a ≤ 9223372036854775807) (hb : -9223372036854775808 ≤ b ∧ b ≤ 9223372036854775807) (d : decode cc pc = .ok (.lcmp, 1)) (hq : pc + 1 = q) (kk : J p l e R s m args below meth c Q D base nL k n q lv (.int (iI (cmpI a b)) :: st) w) : J p l e R s m args below meth c Q D base nL k n pc lv (.long (iL b) :: .long (iL a) :: st) w := by
  subst hq
  intro ls H locs hl hP hS
  exact W.lcmp X.1 X.2.1 d (by rw [lg_cmpI ha hb]; exact kk ls H locs hl hP hS)
theorem j_lrem (X : Cx p l s m args meth c y cc nL ret D ca base) {a b : Int} (ha : -9223372036854775808 ≤ a ∧ a ≤ 9223372036854775807) (hb : 1 ≤ b ∧ b ≤ 9223372036854775807) (d : decode cc pc = .ok (.lrem, 1)) (hq : pc + 1 = q) (kk : J p l e R s m args below meth c Q D base nL k n q lv (.long (iL (a.tmod b)) :: st) w) : J p l e R s m args below meth c Q D base nL k n pc lv (.long (iL b) :: .long (iL a) :: st) w := by
  subst hq
  intro ls H locs hl hP hS
  exact lv_lrem X.1 X.2.1 d (fun z => by have := congrArg Int64.toInt z; rw [iL_z, iL_T (by omega), iL_T (by omega)] at this; omega) (by rw [← iL_tmod ha hb]; exact kk ls H locs hl hP hS)
theorem j_lxor (X : Cx p l s m args meth c y cc nL ret D ca base) {a b : Int64} (d : decode cc pc = .ok (.lxor, 1)) (hq : pc + 1 = q) (kk : J p l e R s m args below meth c Q D base nL k n q lv (.long (a ^^^ b) :: st) w) : J p l e R s m args below meth c Q D base nL k n pc lv (.long b :: .long a :: st) w := by
  subst hq
  intro ls H locs hl hP hS
  exact lv_lxor X.1 X.2.1 d (kk ls H locs hl hP hS)
theorem j_ishl (X : Cx p l s m args meth c y cc nL ret D ca base) {a b v : Int32} (hv : a <<< (b &&& 31) = v) (d : decode cc pc = .ok (.ishl, 1)) (hq : pc + 1 = q) (kk : J p l e R s m args below meth c Q D base nL k n q lv (.int v :: st) w) : J p l e R s m args below meth c Q D base nL k n pc lv (.int b :: .int a :: st) w := by
  subst hq
  intro ls H locs hl hP hS
  exact lv_ishl X.1 X.2.1 d (by rw [hv]; exact kk ls H locs hl hP hS)
theorem j_ishr (X : Cx p l s m args meth c y cc nL ret D ca base) {a b v : Int32} (hv : a >>> (b &&& 31) = v) (d : decode cc pc = .ok (.ishr, 1)) (hq : pc + 1 = q) (kk : J p l e R s m args below meth c Q D base nL k n q lv (.int v :: st) w) : J p l e R s m args below meth c Q D base nL k n pc lv (.int b :: .int a :: st) w := by
  subst hq
  intro ls H locs hl hP hS
  exact lv_ishr X.1 X.2.1 d (by rw [hv]; exact kk ls H locs hl hP hS)
theorem j_iand (X : Cx p l s m args meth c y cc nL ret D ca base) {a b v : Int32} (hv : a &&& b = v) (d : decode cc pc = .ok (.iand, 1)) (hq : pc + 1 = q) (kk : J p l e R s m args below meth c Q D base nL k n q lv (.int v :: st) w) : J p l e R s m args below meth c Q D base nL k n pc lv (.int b :: .int a :: st) w := by
  subst hq
  intro ls H locs hl hP hS
  exact lv_iand X.1 X.2.1 d (by rw [hv]; exact kk ls H locs hl hP hS)
theorem j_ior (X : Cx p l s m args meth c y cc nL ret D ca base) {a b v : Int32} (hv : a ||| b = v) (d : decode cc pc = .ok (.ior, 1)) (hq : pc + 1 = q) (kk : J p l e R s m args below meth c Q D base nL k n q lv (.int v :: st) w) : J p l e R s m args below meth c Q D base nL k n pc lv (.int b :: .int a :: st) w := by
  subst hq
  intro ls H locs hl hP hS
  exact lv_ior X.1 X.2.1 d (by rw [hv]; exact kk ls H locs hl hP hS)
theorem j_l2d (X : Cx p l s m args meth c y cc nL ret D ca base) {a : Int64} (d : decode cc pc = .ok (.l2d, 1)) (hq : pc + 1 = q) (kk : J p l e R s m args below meth c Q D base nL k n q lv (.double (FP.l2d a) :: st) w) : J p l e R s m args below meth c Q D base nL k n pc lv (.long a :: st) w := by
  subst hq
  intro ls H locs hl hP hS
  exact lv_l2d X.1 X.2.1 d (kk ls H locs hl hP hS)
theorem j_ddiv (X : Cx p l s m args meth c y cc nL ret D ca base) {a b : UInt64} (hne : vf_n64 (FP.ddiv a b)) (d : decode cc pc = .ok (.ddiv, 1)) (hq : pc + 1 = q) (kk : J p l e R s m args below meth c Q D base nL k n q lv (.double (FP.ddiv a b) :: st) w) : J p l e R s m args below meth c Q D base nL k n pc lv (.double b :: .double a :: st) w := by
  subst hq
  intro ls H locs hl hP hS
  exact lv_ddiv X.1 X.2.1 d hne (kk ls H locs hl hP hS)
theorem j_dcmp (X : Cx p l s m args meth c y cc nL ret D ca base) {a b : UInt64} {op : CmpOp} (d : decode cc pc = .ok (.dcmp op, 1)) (hq : pc + 1 = q) (kk : J p l e R s m args below meth c Q D base nL k n q lv (.int (Op.cmpValue (FP.dcmp a b) op) :: st) w) : J p l e R s m args below meth c Q D base nL k n pc lv (.double b :: .double a :: st) w := by
  subst hq
  intro ls H locs hl hP hS
  exact lv_dcmp X.1 X.2.1 d (kk ls H locs hl hP hS)
theorem j_zast (X : Cx p l s m args meth c y cc nL ret D ca base) {a N : Nat} {f : Nat → Int32} {i : Int} {x : Int32} (he : w a = some (.inl (ca 1, N, .inl f))) (hi : 0 ≤ i ∧ i < (N : Int)) (hN : N < 2147483648) (hx : x = 0 ∨ x = 1) (hba : base ≤ a) (d : decode cc pc = .ok (.bastore, 1)) (hq : pc + 1 = q) (kk : J p l e R s m args below meth c Q D base nL k n q lv st (wu w a (.inl (ca 1, N, .inl (va_up f i.toNat x))))) : J p l e R s m args below meth c Q D base nL k n pc lv (.int x :: .int (iI i) :: .ref a :: st) w := by
  subst hq
  intro ls H locs hl hP hS
  obtain ⟨hx0, hb, -, -, -, hG, -⟩ := X
  have hin := iI_in hi hN
  have hnx : narrow .boolean (.int x) = .int x := by rcases hx with rfl | rfl <;> rfl
  refine W.zast hx0 hb (hP a _ he) ((hG.1.2 1 _ rfl).1 N (fun j => .int (f j))) (fun z => by cases z) (by show ¬ (_ < 0 ∨ (arrV _ _ _).slots.size ≤ _); rw [arrV_size]; exact hin) rfl rfl d fun H1 e z oq => ?_
  refine kk ls H1 _ hl (hP.set ?_ oq) (hS.put z oq hba)
  show H1[a]? = some (vp_cell _ _)
  rw [e, hnx, vp_cell_i, vp_cell_i, arrV_store]
  congr 2
  funext z
  rw [iI_cl (by omega)]
  by_cases hq : z = i.toNat
  · subst hq
    simp [updV, va_up]
  · simp [updV, va_up, hq]
theorem j_aast (X : Cx p l s m args meth c y cc nL ret D ca base) {a N t v ci : Nat} {r : vw_C} {vs : List Value} {f : Nat → Option Nat} {i : Int} (ht : (tysOf ca)[t]? = some (ca t, .object r.1)) (he : w a = some (.inl (ca t, N, .inr (.inr (.inr (.inr f)))))) (hv : w v = some (.inr (ci, vs))) (hc : vwCl[ci]? = some r) (hi : 0 ≤ i ∧ i < (N : Int)) (hN : N < 2147483648) (hba : base ≤ a) (d : decode cc pc = .ok (.aastore, 1)) (hq : pc + 1 = q) (kk : J p l e R s m args below meth c Q D base nL k n q lv st (wu w a (.inl (ca t, N, .inr (.inr (.inr (.inr (va_up f i.toNat (some v))))))))) : J p l e R s m args below meth c Q D base nL k n pc lv (.ref v :: .int (iI i) :: .ref a :: st) w := by
  subst hq
  intro ls H locs hl hP hS
  obtain ⟨hx, hb, -, -, -, hG, -⟩ := X
  have hin := iI_in hi hN
  have hK := hG.1
  have hlt : (iI i).toNatClampNeg < N := Nat.not_le.mp fun z => hin (Or.inr z)
  have h0 : ¬ iI i < 0 := fun z => hin (Or.inl z)
  obtain ⟨r', hr', cellV, g1, g2, g3, -⟩ := hP v _ hv
  have hcls := (hK.1 ci r hc).2
  obtain ⟨kA, comp, k1, k2, k3, -⟩ := (hK.2 t _ ht).2
  have hcomp : comp = D.1 ci := Option.some.inj (k3.symm.trans hcls.1)
  subst hcomp
  obtain ⟨kC, hkC, -⟩ := hcls.2
  refine W.aast hx hb (hP a _ he) (fun q h => by cases h) (fun h => by cases h) k1 k2 rfl hkC ⟨h0, by show _ < (arrV _ _ _).slots.size; rw [arrV_size]; exact hlt⟩ g1 (fun q h => by rw [g3] at h; cases h) (by rw [g2]; exact hkC) (by rw [g2]; exact va_assign hcls) rfl rfl d fun H1 e z oq => ?_
  refine kk ls H1 _ hl (hP.set ?_ oq) (hS.put z oq hba)
  show H1[a]? = some (vp_cell _ _)
  rw [e, vp_cell_q, vp_cell_q, arrV_store]
  congr 2
  funext z
  rw [iI_cl (by omega)]
  by_cases hq : z = i.toNat
  · subst hq
    simp [updV, va_up, va_rf]
  · simp [updV, va_up, hq]
theorem j_newa (X : Cx p l s m args meth c y cc nL ret D ca base) {atype : ArrayType} {ty : FieldType} {N t : Nat} {con : vp_A} (ht : (tysOf ca)[t]? = some (ca t, ty)) (hta : newarray.typeOf atype = ty) (hno : ∀ C, ty ≠ .object C) (hw : Cond.arrayClass ty ∈ BG) (hcon : ∀ cA, vp_cell cA con = arrV cA N (fun _ => defaultValue ty)) (hN : N < 100000) (hcb : componentBytes ty ≤ 8) (hck : k + 1 ≤ R.cells) (hcn : n + N ≤ R.slots) (d : decode cc pc = .ok (.newarray atype, 2)) (hq : pc + 2 = q) (kk : ∀ a : Nat, base ≤ a → w a = none → J p l e R s m args below meth c Q D base nL (k + 1) (n + N) q lv (.ref a :: st) (wu w a (.inl (ca t, con)))) : J p l e R s m args below meth c Q D base nL k n pc lv (.int (iI N) :: st) w := by
  subst hq
  subst hta
  intro ls H locs hl hP hS
  obtain ⟨hx, hb, -, -, hts, hG, -⟩ := X
  have hcl : (iI (N : Int)).toNatClampNeg = N := by rw [iI_cl (by omega)]; omega
  have h0 : ¬ iI (N : Int) < 0 := by rw [jz_lt (by omega)]; omega
  refine va_newaK hx hb (hts _ hw) (g := F0 m pc ls _) rfl d rfl h0 hcl (by have := Nat.mul_le_mul (Nat.le_of_lt hN) hcb; omega) hck hcn rfl fun H1 cA e1 z1 o1 hAr hNm => ?_
  have hRA := (hG.1.2 t _ ht).2
  have hcA : cA = ca t := by
    have h9 : s.vm.findClass ("[" ++ (newarray.typeOf atype).toString) = some (ca t) := by
      cases atype <;> exact hRA
    exact Option.some.inj (hNm.symm.trans h9)
  subst hcA
  exact kk H.size (Nat.le_trans hG.2.1 hS.1) hP.fresh ls H1 _ hl (hP.push (by show H1[H.size]? = some (vp_cell _ _); rw [hcon]; exact e1) o1) ⟨Nat.le_trans hS.1 (by omega), fun x h1 h2 => (o1 x (Nat.lt_of_lt_of_le h1 hS.1)).trans (hS.2.1 x h1 h2), hS.2.2⟩
theorem j_newq (X : Cx p l s m args meth c y cc nL ret D ca base) {C : String} {N t idx : Nat} (ht : (tysOf ca)[t]? = some (ca t, .object C)) (hC : C ∈ jAO) (hw : Cond.classLink y.cls idx C ∈ BG) (hN : N < 100000) (hck : k + 1 ≤ R.cells) (hcn : n + N ≤ R.slots) (d : decode cc pc = .ok (.anewarray idx, 3)) (hq : pc + 3 = q) (kk : ∀ a : Nat, base ≤ a → w a = none → J p l e R s m args below meth c Q D base nL (k + 1) (n + N) q lv (.ref a :: st) (wu w a (.inl (ca t, N, .inr (.inr (.inr (.inr (fun _ => none)))))))) : J p l e R s m args below meth c Q D base nL k n pc lv (.int (iI N) :: st) w := by
  subst hq
  intro ls H locs hl hP hS
  obtain ⟨hx, hb, -, hown, hts, hG, -⟩ := X
  have hcl : (iI (N : Int)).toNatClampNeg = N := by rw [iI_cl (by omega)]; omega
  have h0 : ¬ iI (N : Int) < 0 := by rw [jz_lt (by omega)]; omega
  have hK := hG.1
  have hover := hG.2.2.2.2.2.2.2.1 C hC
  obtain ⟨kA, comp, k1, k2, k3, k4⟩ := (hK.2 t _ ht).2
  refine W.anew hx hb hown (hts _ hw) (va_AO.use hover) (g := F0 m pc ls _) rfl d rfl h0 (by rw [hcl]; omega) hck (by rw [hcl]; exact hcn) fun cA kA' comp' f1 f2 f3 f4 => ?_
  have hcA : cA = ca t := Option.some.inj (f1.symm.trans k4)
  subst hcA
  rw [hcl]
  generalize hH1 : H.push ({ cls := ca t, slots := Array.replicate N .null, vm := .none } : Cell) = H1
  have z1 : H1.size = H.size + 1 := by rw [← hH1, Array.size_push]
  have e1 : H1[H.size]? = some (arrV (ca t) N (fun _ => .null)) := by rw [← hH1, Array.getElem?_push_size, ← arrV_new]
  have o1 : ∀ q : Nat, q < H.size → H1[q]? = H[q]? := fun q hq => by rw [← hH1, Array.getElem?_push, if_neg (Nat.ne_of_lt hq)]
  exact kk H.size (Nat.le_trans hG.2.1 hS.1) hP.fresh ls H1 _ hl (hP.push (by show H1[H.size]? = some (vp_cell _ _); rw [vp_cell_q]; exact e1) o1) ⟨Nat.le_trans hS.1 (by omega), fun x h1 h2 => (o1 x (Nat.lt_of_lt_of_le h1 hS.1)).trans (hS.2.1 x h1 h2), hS.2.2⟩
theorem j_objInit (X : Cx p l s m args meth c y cc nL ret D ca base) {idx a : Nat} (hw : Cond.methodLink y.cls idx Lib.objectInit ∈ BG) (hw2 : Cond.instanceMethod Lib.objectInit ∈ BG) (hw3 : Cond.code Lib.objectInit ⟨#[0xb1]⟩ 1 none ∈ BG) (hR : 1 ≤ R.frames ∧ (st.map fun v => v.category).sum + 12 ≤ R.locals) (d : decode cc pc = .ok (.invokespecial idx, 3)) (hq : pc + 3 = q) (kk : J p l e R s m args below meth c Q D base nL k n q lv st w) : J p l e R s m args below meth c Q D base nL k n pc lv (.ref a :: st) w := by
  subst hq
  intro ls H locs hl hP hS
  obtain ⟨hx, hb, hml, hown, hts, hG, -⟩ := X
  exact W.objInit hx hb hown (hts _ hw) (hts _ hw2) (hts _ hw3) (g := F0 m pc ls _) rfl (by rw [hml]; exact hl.1) rfl d hR.1 (by show 2 * 0 + _ + 12 ≤ _; rw [Nat.mul_zero, Nat.zero_add]; exact hR.2) (kk ls H locs hl hP hS)
section JEND
variable {post : Option Value → Wd → Prop} {px : String → Wd → Prop} {mc ms : Nat}
theorem j_iret (X : Cx p l s m args meth c y cc nL ret D ca base) {v : Int32} (hrt : ret = some .int) (d : decode cc pc = .ok (.ireturn, 1)) (hp : post (some (.int v)) w) (hk : k ≤ mc) (hn : n ≤ ms) : J p l e R s m args below meth c (vx_MQ below (Qn D base post) (Xn D base px) args s mc ms (fun q => base ≤ q)) D base nL k n pc lv [.int v] w := by
  intro ls H locs hl hP hS
  obtain ⟨hx, hb, -, -, -, hG, hlocks, -, hr, -⟩ := X
  refine vx_ret (W.widen hk hn ?_)
  exact W.iret (v := v) hx hb (hr.trans hrt) (fun t ht hW => ⟨(some (.int v)), w, rfl, hp, by rw [ht]; exact hP, hS.F ht⟩) hS.2.2 d hlocks
theorem j_zret (X : Cx p l s m args meth c y cc nL ret D ca base) {v : Int32} (hrt : ret = some .boolean) (hv : v = 0 ∨ v = 1) (d : decode cc pc = .ok (.ireturn, 1)) (hp : post (some (.int v)) w) (hk : k ≤ mc) (hn : n ≤ ms) : J p l e R s m args below meth c (vx_MQ below (Qn D base post) (Xn D base px) args s mc ms (fun q => base ≤ q)) D base nL k n pc lv [.int v] w := by
  intro ls H locs hl hP hS
  obtain ⟨hx, hb, -, -, -, hG, hlocks, -, hr, -⟩ := X
  refine vx_ret (W.widen hk hn ?_)
  exact W.zret (v := v) (ty := .boolean) hx hb (hr.trans hrt) (by rcases hv with rfl | rfl <;> rfl) (fun t ht hW => ⟨(some (.int v)), w, rfl, hp, by rw [ht]; exact hP, hS.F ht⟩) hS.2.2 d hlocks
theorem j_vret (X : Cx p l s m args meth c y cc nL ret D ca base) (hrt : ret = none) (d : decode cc pc = .ok (.return_, 1)) (hp : post none w) (hk : k ≤ mc) (hn : n ≤ ms) : J p l e R s m args below meth c (vx_MQ below (Qn D base post) (Xn D base px) args s mc ms (fun q => base ≤ q)) D base nL k n pc lv [] w := by
  intro ls H locs hl hP hS
  obtain ⟨hx, hb, -, -, -, hG, hlocks, -, hr, -⟩ := X
  refine vx_ret (W.widen hk hn ?_)
  exact W.vret hx hb (hr.trans hrt) (fun t ht hW => ⟨none, w, rfl, hp, by rw [ht]; exact hP, hS.F ht⟩) hS.2.2 d hlocks
theorem j_lret (X : Cx p l s m args meth c y cc nL ret D ca base) {v : Int64} (hrt : ret = some .long) (d : decode cc pc = .ok (.lreturn, 1)) (hp : post (some (.long v)) w) (hk : k ≤ mc) (hn : n ≤ ms) : J p l e R s m args below meth c (vx_MQ below (Qn D base post) (Xn D base px) args s mc ms (fun q => base ≤ q)) D base nL k n pc lv [.long v] w := by
  intro ls H locs hl hP hS
  obtain ⟨hx, hb, -, -, -, hG, hlocks, -, hr, -⟩ := X
  refine vx_ret (W.widen hk hn ?_)
  exact W.lret (v := v) hx hb (hr.trans hrt) (fun t ht hW => ⟨(some (.long v)), w, rfl, hp, by rw [ht]; exact hP, hS.F ht⟩) hS.2.2 d hlocks
theorem j_dret (X : Cx p l s m args meth c y cc nL ret D ca base) {v : UInt64} (hrt : ret = some .double) (d : decode cc pc = .ok (.dreturn, 1)) (hp : post (some (.double v)) w) (hk : k ≤ mc) (hn : n ≤ ms) : J p l e R s m args below meth c (vx_MQ below (Qn D base post) (Xn D base px) args s mc ms (fun q => base ≤ q)) D base nL k n pc lv [.double v] w := by
  intro ls H locs hl hP hS
  obtain ⟨hx, hb, -, -, -, hG, hlocks, -, hr, -⟩ := X
  refine vx_ret (W.widen hk hn ?_)
  exact W.dret (v := v) hx hb (hr.trans hrt) (fun t ht hW => ⟨(some (.double v)), w, rfl, hp, by rw [ht]; exact hP, hS.F ht⟩) hS.2.2 d hlocks
theorem j_aret (X : Cx p l s m args meth c y cc nL ret D ca base) {r : Option Nat} {C : String} (hrt : ret = some (.object C)) (d : decode cc pc = .ok (.areturn, 1)) (hp : post (some (va_rf r)) w) (hk : k ≤ mc) (hn : n ≤ ms) : J p l e R s m args below meth c (vx_MQ below (Qn D base post) (Xn D base px) args s mc ms (fun q => base ≤ q)) D base nL k n pc lv [va_rf r] w := by
  intro ls H locs hl hP hS
  obtain ⟨hx, hb, -, -, -, hG, hlocks, -, hr, -⟩ := X
  refine vx_ret (W.widen hk hn ?_)
  exact W.aret (v := va_rf r) (rt := .object C) hx hb (hr.trans hrt) (Or.inl ⟨C, rfl⟩) (va_rf_or r) (fun t ht hW => ⟨(some (va_rf r)), w, rfl, hp, by rw [ht]; exact hP, hS.F ht⟩) hS.2.2 d hlocks
/-- 'throw new E("text")' -/
theorem j_throw (X : Cx p l s m args meth c y cc nL ret D ca base) (htab : ∀ x ∈ c.exceptionTable.toList, False) {ik is ic : Nat} {cls text : String} {names : List String} (T : TS y.cls ik is ic cls text names) (d0 : decode cc pc = .ok (.new ik, 3)) (d3 : decode cc (pc + 3) = .ok (.dup, 1)) (d4 : decode cc (pc + 4) = .ok (.ldc is, 2)) (d6 : decode cc (pc + 6) = .ok (.invokespecial ic, 3)) (d9 : decode cc (pc + 9) = .ok (.athrow, 1)) (hRf : names.length + 3 < R.frames) (hRl : (st.map fun v => v.category).sum + (13 * (names.length + 1) + 43) ≤ R.locals) (hRc : k + 1 ≤ R.cells) (hRs : n + 6 ≤ R.slots) (hp : px cls w) (hk : k + 1 ≤ mc) (hn : n + 6 ≤ ms) : J p l e R s m args below meth c (vx_MQ below (Qn D base post) (Xn D base px) args s mc ms (fun q => base ≤ q)) D base nL k n pc lv st w := by
  intro ls H locs hl hP hS
  obtain ⟨t1, t2, t3, t4, t5, t6, t7, t8, t9⟩ := T
  obtain ⟨hx, hb, hml, hown, hts, hG, hlocks, hst, hr, -⟩ := X
  obtain ⟨g1, g2, g3, g4, g5, g6, -, -, g9⟩ := hG
  obtain ⟨sa, hsa⟩ := g5 _ t5
  have hat : ∀ w ∈ vx_atS y.cls ic cls names, w.before args s = true := by
    intro z hz
    by_cases hg : goodWord z = true
    · exact hts z (t7 z (List.mem_filter.mpr ⟨hz, hg⟩))
    · rcases List.mem_cons.mp (t8 z (List.mem_filter.mpr ⟨hz, by simp [hg]⟩)) with h | h
      · rw [h]
        exact va_Nw.use rfl (g6 _ t6)
      · obtain ⟨u, hu, rfl⟩ := List.mem_map.mp h
        exact va_Nw.use rfl (g9 u hu)
  refine vx_throwS hx hb hst hown t1 t2 (hts _ t3) (hts _ t4) hsa hat t9 g3 g4 hS (by rw [hml]; exact hl.1) d0 d3 d4 d6 d9 (fun x hx => (htab x hx).elim) hRf hRl hRc hRs hlocks (fun t hA hz hq => ?_) hS.2.2 hk hn
  exact ⟨w, hp, hP.kept hq, Nat.le_trans hS.1 hz, fun x h1 h2 => (hq x (Nat.lt_of_lt_of_le h1 hS.1)).trans (hS.2.1 x h1 h2)⟩
/-- an exception of a callee goes on to the caller -/
theorem jx_out (X : Cx p l s m args meth c y cc nL ret D ca base) (htab : ∀ x ∈ c.exceptionTable.toList, False) {E : String} (hp : px E w) (hk : k ≤ mc) (hn : n ≤ ms) : JX p l e R s m args below meth c (vx_MQ below (Qn D base post) (Xn D base px) args s mc ms (fun q => base ≤ q)) D base nL k n pc lv st w E := by
  intro ls H locs q ce hl hP hS hc1 hc2 hc3
  exact vx_out (fun x hx => (htab x hx).elim) X.2.2.2.2.2.2.1 hc1 hc2 hc3 (fun t ht hA => ⟨w, hp, by rw [ht]; exact hP, hS.F ht⟩) hS.2.2 hk hn
end JEND
theorem jj_go {a : Array Value} {mc ms : Nat} {post : Option Value → Wd → Prop} {px : String → Wd → Prop} {H : Heap} {locs : List Loc} {ls : Array Slot} {st0 : List Value} (hl : lv_has ls nL lv) (hr : vx_Run p l e R s m args below meth c H locs k n mc ms (F0 m pc ls st0) st (Qn D base post a) (Xn D base px) (fun q => base ≤ q)) (hS : va_S (fun q => base ≤ q) s.heap H locs)
    (kx : ∀ (E : String) (w' : Wd), px E w' → JX p l e R s m args below meth c Q D base nL (k + mc) (n + ms) pc lv st w' E)
    (kk : ∀ (v : Option Value) (w' : Wd), post v w' → J p l e R s m args below meth c Q D base nL (k + mc) (n + ms) (pc + 3) lv (v.toList ++ st) w') : W p l e R s m args below meth c H locs k n Q (F0 m pc ls st0) := by
  intro T hT X
  rcases hr T hT X with ⟨v, st₀, t, T', L, h0, X', hL, e1, e2, ⟨v', w', hv, hp, hb, hF⟩, stp⟩ | ⟨q, st₀, t, T', L, E, ce, h0, X', hL, e1, e2, ⟨w', hp, hb, hF⟩, hce, hcv, hcl, stp⟩
  · cases hv
    obtain ⟨k1, k2, k3⟩ := vx_keep h0 e1 hS (fun _ _ h => h) (fun _ h => h) hL hF
    obtain ⟨t2, a1, b1⟩ := kk v w' hp ls T'.heap (locs ++ L) hl (by rw [e1]; exact hb) k3 T' rfl X'
    exact ⟨t2, stp t2 a1, b1⟩
  · obtain ⟨k1, k2, k3⟩ := vx_keep h0 e1 hS (fun _ _ h => h) (fun _ h => h) hL hF
    obtain ⟨t2, a1, b1⟩ := kx E w' hp ls T'.heap (locs ++ L) q ce hl (by rw [e1]; exact hb) k3 (by rw [e1]; exact hce) hcv hcl T' rfl X'
    exact ⟨t2, stp.trans a1, b1⟩
/-- the start of a callee, from the caller's place -/
theorem jj_pre {H : Heap} {locs : List Loc} (hG : GI D ca base s s.heap) (hP : HP D w H) (hS : va_S (fun q => base ≤ q) s.heap H locs) (av : List Value) : FrameBlind (va_Pc av (fun U => GI D ca base U U.heap ∧ HP D w U.heap)) ∧ ∀ U : State, U.heap = H → s.WarmedH U.vm → va_Pc av (fun U => GI D ca base U U.heap ∧ HP D w U.heap) av.toArray U := by
  refine ⟨fun a U g mk h => ⟨h.1, GI.same (s := U) rfl h.2.1, h.2.2⟩, fun U hU hW => ⟨rfl, ?_, by rw [hU]; exact hP⟩⟩
  rw [hU]
  exact (hG.kept hS.1 (fun q h1 h2 => hS.2.1 q h1 h2)).warm hW
theorem jj_cb {own : String} {idx mc ms na d : Nat} {z : MethodName} {b : ByteArray} {maxL : Nat} {rt : Option FieldType} (hts : ∀ w ∈ BG, w.before args s = true) (h1 : Cond.methodLink own idx z ∈ BG) (h2 : Cond.initialized z.cls ∈ BG) (h3 : Cond.code z b maxL rt ∈ BG) (h4 : z.cls ≠ "java/lang/invoke/MethodHandle" ∧ z.cls ≠ "java/lang/invoke/VarHandle") (h5 : (parseMethodDescriptor z.desc).map (fun d => d.parameters.length) = some na) (hR : (8 * d + 8) + 1 ≤ R.frames ∧ 8 + (maxL + 11) + (120 * d + 200) ≤ R.locals) : CallB R s args own idx z b maxL rt (.code z b maxL rt :: BG) (Rm d mc ms) mc ms na := by
  have hG : ∀ w ∈ (Cond.code z b maxL rt :: BG), w ∈ BG ∧ ((w.onTables && w.keeps) = true ∨ ∃ ty, w = .arrayClass ty) := by
    intro w hw
    have hw2 : w ∈ BG := by
      rcases List.mem_cons.mp hw with rfl | h
      · exact h3
      · exact h
    exact BG_ok (fun _ h => h) w hw2
  refine ⟨rfl, rfl, hR.1, hR.2, pay_in hts hG, List.mem_cons_self, hts _ h3, hts _ h2, h4, fun sig h => ?_, hts _ h1⟩
  rw [h] at h5
  exact (Option.some.inj h5).symm
theorem j_callV (X : Cx p l s m args meth c y cc nL ret D ca base) {C : String} {idx : Nat} {z : MethodName} {b : ByteArray} {maxL : Nat} {rt : Option FieldType} {dd mc ms : Nat} {As : List Value} {post : Option Value → Wd → Prop} {px : String → Wd → Prop} {st0 : List Value} {a ci : Nat} {fs : List Value} (he : w a = some (.inr (ci, fs))) (hc : (vwCl[ci]?).map (fun q => q.1) = some C) (hM : CT l D ca base z b maxL rt dd mc ms (.ref a :: As) w post px) (hf : SV y.cls C idx z b maxL rt As.length) (hR : (8 * dd + 8) + 1 ≤ R.frames ∧ 8 + (maxL + 11) + (120 * dd + 200) ≤ R.locals) (hst : st0 = As.reverse ++ .ref a :: st) (hcat : (st.map fun v => v.category).sum ≤ 8) (d : decode cc pc = .ok (.invokevirtual idx, 3)) (hf9 : k + mc ≤ R.cells ∧ n + ms ≤ R.slots)
    (kx : ∀ (E : String) (w' : Wd), px E w' → JX p l e R s m args below meth c Q D base nL (k + mc) (n + ms) pc lv st w' E)
    (kk : ∀ (v : Option Value) (w' : Wd), post v w' → J p l e R s m args below meth c Q D base nL (k + mc) (n + ms) (pc + 3) lv (v.toList ++ st) w') : J p l e R s m args below meth c Q D base nL k n pc lv st0 w := by
  intro ls H locs hl hP hS
  obtain ⟨f1, f2, f3, f4, f5, f6, f7⟩ := hf
  obtain ⟨hx, hb, hml, hown, hts, hG, -⟩ := X
  have hpre := jj_pre (w := w) hG hP hS (.ref a :: As)
  have hrc : ∃ cell : Cell, H[a]? = some cell ∧ cell.vm.isStatics = false ∧ s.vm.findClass C = some cell.cls := by
    cases hcl : vwCl[ci]? with
    | none => rw [hcl] at hc; cases hc
    | some r =>
      rw [hcl] at hc
      cases hc
      exact va_recv (q0 := 0) (fs := fs) hG.1 (hP.one he) hcl rfl
  exact jj_go hl (vx_runV (As := As) (rest := st) ⟨hx, hb, hml, hown, hts⟩ hM ⟨jj_cb hts f1 f4 f5 f6 f7 hR, hts _ f2, hts _ f3⟩ ⟨hpre.1, hrc, hpre.2⟩ rfl rfl hl.1 hst (lv_room hcat) d hf9) hS kx kk
theorem j_callS (X : Cx p l s m args meth c y cc nL ret D ca base) {idx : Nat} {z : MethodName} {b : ByteArray} {maxL : Nat} {rt : Option FieldType} {dd mc ms : Nat} {As : List Value} {post : Option Value → Wd → Prop} {px : String → Wd → Prop} {st0 : List Value} (hM : CT l D ca base z b maxL rt dd mc ms As w post px) (hf : SS y.cls idx z b maxL rt As.length) (hR : (8 * dd + 8) + 1 ≤ R.frames ∧ 8 + (maxL + 11) + (120 * dd + 200) ≤ R.locals) (hst : st0 = As.reverse ++ st) (hcat : (st.map fun v => v.category).sum ≤ 8) (d : decode cc pc = .ok (.invokestatic idx, 3)) (hf9 : k + mc ≤ R.cells ∧ n + ms ≤ R.slots)
    (kx : ∀ (E : String) (w' : Wd), px E w' → JX p l e R s m args below meth c Q D base nL (k + mc) (n + ms) pc lv st w' E)
    (kk : ∀ (v : Option Value) (w' : Wd), post v w' → J p l e R s m args below meth c Q D base nL (k + mc) (n + ms) (pc + 3) lv (v.toList ++ st) w') : J p l e R s m args below meth c Q D base nL k n pc lv st0 w := by
  intro ls H locs hl hP hS
  obtain ⟨f1, f2, f4, f5, f6, f7⟩ := hf
  obtain ⟨hx, hb, hml, hown, hts, hG, -⟩ := X
  have hpre := jj_pre (w := w) hG hP hS As
  exact jj_go hl (vx_runS (As := As) (rest := st) ⟨hx, hb, hml, hown, hts⟩ hM ⟨jj_cb hts f1 f4 f5 f6 f7 hR, hts _ f2⟩ hpre rfl rfl hl.1 hst (lv_room hcat) d hf9) hS kx kk
theorem j_callI (X : Cx p l s m args meth c y cc nL ret D ca base) {idx : Nat} {z : MethodName} {b : ByteArray} {maxL : Nat} {dd mc ms : Nat} {As : List Value} {post : Option Value → Wd → Prop} {px : String → Wd → Prop} {st0 : List Value} {a : Nat} (hM : CT l D ca base z b maxL none dd mc ms (.ref a :: As) w post px) (hf : SI y.cls idx z b maxL As.length) (hR : (8 * dd + 8) + 1 ≤ R.frames ∧ 8 + (maxL + 11) + (120 * dd + 200) ≤ R.locals) (hst : st0 = As.reverse ++ .ref a :: st) (hcat : (st.map fun v => v.category).sum ≤ 8) (d : decode cc pc = .ok (.invokespecial idx, 3)) (hf9 : k + mc ≤ R.cells ∧ n + ms ≤ R.slots)
    (kx : ∀ (E : String) (w' : Wd), px E w' → JX p l e R s m args below meth c Q D base nL (k + mc) (n + ms) pc lv st w' E)
    (kk : ∀ (v : Option Value) (w' : Wd), post v w' → J p l e R s m args below meth c Q D base nL (k + mc) (n + ms) (pc + 3) lv (v.toList ++ st) w') : J p l e R s m args below meth c Q D base nL k n pc lv st0 w := by
  intro ls H locs hl hP hS
  obtain ⟨f1, f2, f4, f5, f8, f6, f7⟩ := hf
  obtain ⟨hx, hb, hml, hown, hts, hG, -⟩ := X
  have hpre := jj_pre (w := w) hG hP hS (.ref a :: As)
  exact jj_go hl (vx_runI (As := As) (rest := st) ⟨hx, hb, hml, hown, hts⟩ hM ⟨jj_cb hts f1 f4 f5 f6 f7 hR, f8, hts _ f2⟩ hpre rfl rfl hl.1 hst (lv_room hcat) d hf9) hS kx kk
end JROWS2
theorem jj_ofW {l : Launch} {y : MethodName} {ws ws' : List Cond} {rm : Room} {Pc : Array Value → State → Prop} {Qc : Array Value → State → Outcome → State → Prop} {XC : String → State → State → Prop} {mc ms : Nat} {free : Addr → Prop} {cc : ByteArray} {maxL : Nat} {ret : Option FieldType}
    (hy : plainFor y = true) (hw : ws = Cond.code y cc maxL ret :: ws')
    (body : ∀ p e s m args below meth c s₁, BodyLoose p l y (headSpec ws rm) cc maxL ret e s m args below meth c s₁ → c.maxLocals = maxL → (∀ x ∈ c.exceptionTable.toList, False) → Pc args s →
      W p l e (headSpec ws rm).room s m args below meth c s.heap [] 0 0 (vx_MQ below Qc XC args s mc ms free) (entryFrame m args maxL)) : vx_Met l y ws rm Pc Qc XC mc ms free := by
  refine MetFree.of_bodySF (code := cc) (maxLocals := maxL) (ret := ret) hy ?_ ?_
  · intro args s m h hn
    obtain ⟨meth, c, h1, h2, h3, h4, h5, h6, -, -⟩ := Cond.code_spec hn (atoms_spec (ws := ws) h _ (by rw [hw]; exact List.mem_cons_self))
    exact ⟨meth, c, h1, h2, h3, h4, h5, h6⟩
  · intro p e s m args below meth c s₁ B hml hP _
    have hh0 : s₁.heap = s.heap := by rw [B.state]; rfl
    have ht : ∀ x ∈ c.exceptionTable.toList, False := by
      obtain ⟨meth9, c9, h1, h2, -, -, -, -, h7, -⟩ := Cond.code_spec B.named (atoms_spec (ws := ws) B.pre _ (by rw [hw]; exact List.mem_cons_self))
      cases Option.some.inj (h1.symm.trans B.method)
      cases Option.some.inj (h2.symm.trans (Stand.of_body B).code)
      intro x hx
      rw [Array.isEmpty_iff.mp h7] at hx
      cases hx
    obtain ⟨t, a1, o, b1, b2, b3⟩ := body p e s m args below meth c s₁ B hml ht hP s₁ hh0 (Stand.of_body B)
    exact ⟨t, o, a1, b1, b2, b3⟩
/-- a contract out of the walk of the body -/
theorem CT.mk {l : Launch} (hlt : l.stackTraces = false) {D : va_G} {ca : Nat → ClassId} {base : Nat} {y : MethodName} {b : ByteArray} {maxL : Nat} {ret : Option FieldType} {d mc ms : Nat} {av : List Value} {w : Wd} {post : Option Value → Wd → Prop} {px : String → Wd → Prop} (hy : plainFor y = true) (hlen : (lg_sl av).length ≤ maxL)
    (body : ∀ (p : Program) (e : Env) (s : State) (m : MethodId) (args : Array Value) (below : List Frame) (meth : Method) (c : Code), Cx p l s m args meth c y b maxL ret D ca base → (∀ x ∈ c.exceptionTable.toList, False) → J p l e (Rm d mc ms) s m args below meth c (vx_MQ below (Qn D base post) (Xn D base px) args s mc ms (fun q => base ≤ q)) D base maxL 0 0 0 (lv_args 0 av) [] w) : CT l D ca base y b maxL ret d mc ms av w post px := by
  refine jj_ofW (cc := b) (maxL := maxL) (ret := ret) hy rfl ?_
  intro p e s m args below meth c s₁ B hml htab hv
  obtain ⟨rfl, hG, hP⟩ := hv
  have hts := atoms_spec (ws := Cond.code y b maxL ret :: BG) B.pre
  have X : Cx p l s m av.toArray meth c y b maxL ret D ca base := ⟨B.exec, B.bytes, hml, findClass_of_methodNamed B.named, fun w hw => hts w (List.mem_cons_of_mem _ hw), hG, B.notSynchronized, hlt, B.returns, (name_of_methodNamed B.named B.method).1⟩
  have h := body p e s m av.toArray below meth c X htab _ s.heap [] (lv_entry av hlen) hP va_S.rf
  rw [lg_entry_eq]
  exact h
end
section
/-! facts of the links, by program (wip/whole/gen/words.py) -/
theorem uw_X0 : ∀ w ∈ u_ws RX0 TX0 10, w ∈ BG := fun w hw => BG_t ((by decide +kernel : ∀ w ∈ u_ws RX0 TX0 10, w ∈ tables_1) w hw) ((by decide +kernel : ∀ w ∈ u_ws RX0 TX0 10, goodWord w = true) w hw)
theorem uw_X1 : ∀ w ∈ u_ws RX1 TX1 9, w ∈ BG := fun w hw => BG_t ((by decide +kernel : ∀ w ∈ u_ws RX1 TX1 9, w ∈ tables_1) w hw) ((by decide +kernel : ∀ w ∈ u_ws RX1 TX1 9, goodWord w = true) w hw)
theorem uw_X2 : ∀ w ∈ u_ws RX2 TX2 3, w ∈ BG := fun w hw => BG_t ((by decide +kernel : ∀ w ∈ u_ws RX2 TX2 3, w ∈ tables_1) w hw) ((by decide +kernel : ∀ w ∈ u_ws RX2 TX2 3, goodWord w = true) w hw)
theorem uw_X3 : ∀ w ∈ u_ws RX3 TX3 9, w ∈ BG := fun w hw => BG_t ((by decide +kernel : ∀ w ∈ u_ws RX3 TX3 9, w ∈ tables_1) w hw) ((by decide +kernel : ∀ w ∈ u_ws RX3 TX3 9, goodWord w = true) w hw)
theorem uw_X4 : ∀ w ∈ u_ws RX4 TX4 22, w ∈ BG := fun w hw => BG_t ((by decide +kernel : ∀ w ∈ u_ws RX4 TX4 22, w ∈ tables_1) w hw) ((by decide +kernel : ∀ w ∈ u_ws RX4 TX4 22, goodWord w = true) w hw)
theorem si_L_82 : SI RL 82 yX3_init cX3_init 1 0 := ⟨BG_t (List.mem_of_getElem? (i := 15) (by decide +kernel)) (by decide +kernel), BG_t (List.mem_of_getElem? (i := 16) (by decide +kernel)) (by decide +kernel), BG_t (List.mem_of_getElem? (i := 1) (by decide +kernel)) (by decide +kernel), BG_t (List.mem_of_getElem? (i := 17) (by decide +kernel)) (by decide +kernel), rfl, by decide +kernel, by decide +kernel⟩
theorem oi_X3_1 : Cond.methodLink RX3 1 Lib.objectInit ∈ BG ∧ Cond.instanceMethod Lib.objectInit ∈ BG ∧ Cond.code Lib.objectInit ⟨#[0xb1]⟩ 1 none ∈ BG := ⟨BG_t (List.mem_of_getElem? (i := 18) (by decide +kernel)) (by decide +kernel), BG_t (List.mem_of_getElem? (i := 19) (by decide +kernel)) (by decide +kernel), BG_t (List.mem_of_getElem? (i := 20) (by decide +kernel)) (by decide +kernel)⟩
theorem fl_X3_11 : FL RX3 11 3 0 := ⟨RX3, TX3, 9, rfl, by decide, BG_t (List.mem_of_getElem? (i := 27) (by decide +kernel)) (by decide +kernel), rfl, uw_X3⟩
theorem fp_X3_11 : FP RX3 11 3 0 (.array (.object "Calibratory$Instrument")) true := ⟨RX3, TX3, 9, tyX3, rfl, by decide, BG_t (List.mem_of_getElem? (i := 27) (by decide +kernel)) (by decide +kernel), rfl, uw_X3, tyX3_ok, nmX3, rfl, by decide +kernel⟩
theorem fl_X3_17 : FL RX3 17 3 1 := ⟨RX3, TX3, 9, rfl, by decide, BG_t (List.mem_of_getElem? (i := 28) (by decide +kernel)) (by decide +kernel), rfl, uw_X3⟩
theorem fp_X3_17 : FP RX3 17 3 1 (.array (.object "Calibratory$Measurement")) true := ⟨RX3, TX3, 9, tyX3, rfl, by decide, BG_t (List.mem_of_getElem? (i := 28) (by decide +kernel)) (by decide +kernel), rfl, uw_X3, tyX3_ok, nmX3, rfl, by decide +kernel⟩
theorem fl_X3_23 : FL RX3 23 3 2 := ⟨RX3, TX3, 9, rfl, by decide, BG_t (List.mem_of_getElem? (i := 29) (by decide +kernel)) (by decide +kernel), rfl, uw_X3⟩
theorem fp_X3_23 : FP RX3 23 3 2 (.array (.object "Calibratory$Calibration")) true := ⟨RX3, TX3, 9, tyX3, rfl, by decide, BG_t (List.mem_of_getElem? (i := 29) (by decide +kernel)) (by decide +kernel), rfl, uw_X3, tyX3_ok, nmX3, rfl, by decide +kernel⟩
theorem fl_X3_38 : FL RX3 38 3 3 := ⟨RX3, TX3, 9, rfl, by decide, BG_t (List.mem_of_getElem? (i := 30) (by decide +kernel)) (by decide +kernel), rfl, uw_X3⟩
theorem fp_X3_38 : FP RX3 38 3 3 .int false := ⟨RX3, TX3, 9, tyX3, rfl, by decide, BG_t (List.mem_of_getElem? (i := 30) (by decide +kernel)) (by decide +kernel), rfl, uw_X3, tyX3_ok, nmX3, rfl, by decide +kernel⟩
theorem fl_X3_113 : FL RX3 113 3 4 := ⟨RX3, TX3, 9, rfl, by decide, BG_t (List.mem_of_getElem? (i := 31) (by decide +kernel)) (by decide +kernel), rfl, uw_X3⟩
theorem fp_X3_113 : FP RX3 113 3 4 .int false := ⟨RX3, TX3, 9, tyX3, rfl, by decide, BG_t (List.mem_of_getElem? (i := 31) (by decide +kernel)) (by decide +kernel), rfl, uw_X3, tyX3_ok, nmX3, rfl, by decide +kernel⟩
theorem fl_X3_92 : FL RX3 92 3 5 := ⟨RX3, TX3, 9, rfl, by decide, BG_t (List.mem_of_getElem? (i := 32) (by decide +kernel)) (by decide +kernel), rfl, uw_X3⟩
theorem fp_X3_92 : FP RX3 92 3 5 .int false := ⟨RX3, TX3, 9, tyX3, rfl, by decide, BG_t (List.mem_of_getElem? (i := 32) (by decide +kernel)) (by decide +kernel), rfl, uw_X3, tyX3_ok, nmX3, rfl, by decide +kernel⟩
theorem fl_X3_224 : FL RX3 224 3 6 := ⟨RX3, TX3, 9, rfl, by decide, BG_t (List.mem_of_getElem? (i := 33) (by decide +kernel)) (by decide +kernel), rfl, uw_X3⟩
theorem fp_X3_224 : FP RX3 224 3 6 .int false := ⟨RX3, TX3, 9, tyX3, rfl, by decide, BG_t (List.mem_of_getElem? (i := 33) (by decide +kernel)) (by decide +kernel), rfl, uw_X3, tyX3_ok, nmX3, rfl, by decide +kernel⟩
theorem fl_X3_69 : FL RX3 69 3 7 := ⟨RX3, TX3, 9, rfl, by decide, BG_t (List.mem_of_getElem? (i := 34) (by decide +kernel)) (by decide +kernel), rfl, uw_X3⟩
theorem fp_X3_69 : FP RX3 69 3 7 .int false := ⟨RX3, TX3, 9, tyX3, rfl, by decide, BG_t (List.mem_of_getElem? (i := 34) (by decide +kernel)) (by decide +kernel), rfl, uw_X3, tyX3_ok, nmX3, rfl, by decide +kernel⟩
theorem fl_X3_99 : FL RX3 99 3 8 := ⟨RX3, TX3, 9, rfl, by decide, BG_t (List.mem_of_getElem? (i := 35) (by decide +kernel)) (by decide +kernel), rfl, uw_X3⟩
theorem fp_X3_99 : FP RX3 99 3 8 .int false := ⟨RX3, TX3, 9, tyX3, rfl, by decide, BG_t (List.mem_of_getElem? (i := 35) (by decide +kernel)) (by decide +kernel), rfl, uw_X3, tyX3_ok, nmX3, rfl, by decide +kernel⟩
theorem sv_L_104 : SV RL RX3 104 yX3_today cX3_today 1 (some .int) 0 := ⟨BG_t (List.mem_of_getElem? (i := 55) (by decide +kernel)) (by decide +kernel), BG_t (List.mem_of_getElem? (i := 56) (by decide +kernel)) (by decide +kernel), BG_t (List.mem_of_getElem? (i := 57) (by decide +kernel)) (by decide +kernel), BG_t (List.mem_of_getElem? (i := 1) (by decide +kernel)) (by decide +kernel), BG_t (List.mem_of_getElem? (i := 58) (by decide +kernel)) (by decide +kernel), by decide +kernel, by decide +kernel⟩
theorem sv_L_108 : SV RL RX3 108 yX3_instruments cX3_instruments 1 (some .int) 0 := ⟨BG_t (List.mem_of_getElem? (i := 59) (by decide +kernel)) (by decide +kernel), BG_t (List.mem_of_getElem? (i := 60) (by decide +kernel)) (by decide +kernel), BG_t (List.mem_of_getElem? (i := 61) (by decide +kernel)) (by decide +kernel), BG_t (List.mem_of_getElem? (i := 1) (by decide +kernel)) (by decide +kernel), BG_t (List.mem_of_getElem? (i := 62) (by decide +kernel)) (by decide +kernel), by decide +kernel, by decide +kernel⟩
theorem sv_L_153 : SV RL RX3 153 yX3_measurements cX3_measurements 1 (some .int) 0 := ⟨BG_t (List.mem_of_getElem? (i := 63) (by decide +kernel)) (by decide +kernel), BG_t (List.mem_of_getElem? (i := 64) (by decide +kernel)) (by decide +kernel), BG_t (List.mem_of_getElem? (i := 65) (by decide +kernel)) (by decide +kernel), BG_t (List.mem_of_getElem? (i := 1) (by decide +kernel)) (by decide +kernel), BG_t (List.mem_of_getElem? (i := 66) (by decide +kernel)) (by decide +kernel), by decide +kernel, by decide +kernel⟩
theorem sv_L_160 : SV RL RX3 160 yX3_calledBack cX3_calledBack 1 (some .int) 0 := ⟨BG_t (List.mem_of_getElem? (i := 67) (by decide +kernel)) (by decide +kernel), BG_t (List.mem_of_getElem? (i := 68) (by decide +kernel)) (by decide +kernel), BG_t (List.mem_of_getElem? (i := 69) (by decide +kernel)) (by decide +kernel), BG_t (List.mem_of_getElem? (i := 1) (by decide +kernel)) (by decide +kernel), BG_t (List.mem_of_getElem? (i := 70) (by decide +kernel)) (by decide +kernel), by decide +kernel, by decide +kernel⟩
theorem sv_L_164 : SV RL RX3 164 yX3_calledBackByLog cX3_calledBackByLog 3 (some .int) 0 := ⟨BG_t (List.mem_of_getElem? (i := 71) (by decide +kernel)) (by decide +kernel), BG_t (List.mem_of_getElem? (i := 72) (by decide +kernel)) (by decide +kernel), BG_t (List.mem_of_getElem? (i := 73) (by decide +kernel)) (by decide +kernel), BG_t (List.mem_of_getElem? (i := 1) (by decide +kernel)) (by decide +kernel), BG_t (List.mem_of_getElem? (i := 74) (by decide +kernel)) (by decide +kernel), by decide +kernel, by decide +kernel⟩
theorem sv_X3_227 : SV RX3 RX3 227 yX3_logRecalls cX3_logRecalls 4 (some .boolean) 1 := ⟨BG_t (List.mem_of_getElem? (i := 75) (by decide +kernel)) (by decide +kernel), BG_t (List.mem_of_getElem? (i := 77) (by decide +kernel)) (by decide +kernel), BG_in (List.mem_append_left _ (List.mem_of_getElem? (i := 0) (by decide +kernel))) (by decide +kernel), BG_t (List.mem_of_getElem? (i := 1) (by decide +kernel)) (by decide +kernel), BG_t (List.mem_of_getElem? (i := 78) (by decide +kernel)) (by decide +kernel), by decide +kernel, by decide +kernel⟩
theorem ss_X3_238 : SS RX3 238 yX3_restsOn cX3_restsOn 4 (some .boolean) 3 := ⟨BG_t (List.mem_of_getElem? (i := 79) (by decide +kernel)) (by decide +kernel), BG_t (List.mem_of_getElem? (i := 80) (by decide +kernel)) (by decide +kernel), BG_t (List.mem_of_getElem? (i := 1) (by decide +kernel)) (by decide +kernel), BG_t (List.mem_of_getElem? (i := 81) (by decide +kernel)) (by decide +kernel), by decide +kernel, by decide +kernel⟩
theorem sw_L_86 : Cond.methodLink RL 86 yL_tell ∈ BG ∧ Cond.static yL_tell ∈ BG ∧ Cond.initialized yL_tell.cls ∈ BG ∧ Cond.codeWith yL_tell cL_tell 7 (some .int) [(0, 14, 17, 13), (0, 14, 21, 15), (0, 14, 25, 17)] ∈ BG ∧ (yL_tell.cls ≠ "java/lang/invoke/MethodHandle" ∧ yL_tell.cls ≠ "java/lang/invoke/VarHandle") ∧ (parseMethodDescriptor yL_tell.desc).map (fun d => d.parameters.length) = some 6 := ⟨BG_t (List.mem_of_getElem? (i := 82) (by decide +kernel)) (by decide +kernel), BG_t (List.mem_of_getElem? (i := 83) (by decide +kernel)) (by decide +kernel), BG_t (List.mem_of_getElem? (i := 0) (by decide +kernel)) (by decide +kernel), BG_t (List.mem_of_getElem? (i := 84) (by decide +kernel)) (by decide +kernel), by decide +kernel, by decide +kernel⟩
theorem sv_L_7 : SV RL RX3 7 yX3_tell cX3_tell 8 (some .int) 4 := ⟨BG_t (List.mem_of_getElem? (i := 88) (by decide +kernel)) (by decide +kernel), BG_t (List.mem_of_getElem? (i := 89) (by decide +kernel)) (by decide +kernel), BG_t (List.mem_of_getElem? (i := 90) (by decide +kernel)) (by decide +kernel), BG_t (List.mem_of_getElem? (i := 1) (by decide +kernel)) (by decide +kernel), BG_t (List.mem_of_getElem? (i := 91) (by decide +kernel)) (by decide +kernel), by decide +kernel, by decide +kernel⟩
theorem sv_X3_27 : SV RX3 RX3 27 yX3_knownOrNone cX3_knownOrNone 2 (some (.object "Calibratory$Instrument")) 1 := ⟨BG_t (List.mem_of_getElem? (i := 92) (by decide +kernel)) (by decide +kernel), BG_t (List.mem_of_getElem? (i := 94) (by decide +kernel)) (by decide +kernel), BG_in (List.mem_append_left _ (List.mem_of_getElem? (i := 1) (by decide +kernel))) (by decide +kernel), BG_t (List.mem_of_getElem? (i := 1) (by decide +kernel)) (by decide +kernel), BG_t (List.mem_of_getElem? (i := 95) (by decide +kernel)) (by decide +kernel), by decide +kernel, by decide +kernel⟩
theorem sv_X3_54 : SV RX3 RX3 54 yX3_known cX3_known 3 (some (.object "Calibratory$Instrument")) 1 := ⟨BG_t (List.mem_of_getElem? (i := 96) (by decide +kernel)) (by decide +kernel), BG_t (List.mem_of_getElem? (i := 98) (by decide +kernel)) (by decide +kernel), BG_in (List.mem_append_left _ (List.mem_of_getElem? (i := 2) (by decide +kernel))) (by decide +kernel), BG_t (List.mem_of_getElem? (i := 1) (by decide +kernel)) (by decide +kernel), BG_t (List.mem_of_getElem? (i := 99) (by decide +kernel)) (by decide +kernel), by decide +kernel, by decide +kernel⟩
theorem si_X3_47 : SI RX3 47 yX1_init cX1_init 5 4 := ⟨BG_t (List.mem_of_getElem? (i := 201) (by decide +kernel)) (by decide +kernel), BG_t (List.mem_of_getElem? (i := 202) (by decide +kernel)) (by decide +kernel), BG_t (List.mem_of_getElem? (i := 9) (by decide +kernel)) (by decide +kernel), BG_t (List.mem_of_getElem? (i := 203) (by decide +kernel)) (by decide +kernel), rfl, by decide +kernel, by decide +kernel⟩
theorem oi_X1_1 : Cond.methodLink RX1 1 Lib.objectInit ∈ BG ∧ Cond.instanceMethod Lib.objectInit ∈ BG ∧ Cond.code Lib.objectInit ⟨#[0xb1]⟩ 1 none ∈ BG := ⟨BG_t (List.mem_of_getElem? (i := 204) (by decide +kernel)) (by decide +kernel), BG_t (List.mem_of_getElem? (i := 19) (by decide +kernel)) (by decide +kernel), BG_t (List.mem_of_getElem? (i := 20) (by decide +kernel)) (by decide +kernel)⟩
theorem fl_X1_7 : FL RX1 7 1 0 := ⟨RX1, TX1, 9, rfl, by decide, BG_t (List.mem_of_getElem? (i := 205) (by decide +kernel)) (by decide +kernel), rfl, uw_X1⟩
theorem fp_X1_7 : FP RX1 7 1 0 .int true := ⟨RX1, TX1, 9, tyX1, rfl, by decide, BG_t (List.mem_of_getElem? (i := 205) (by decide +kernel)) (by decide +kernel), rfl, uw_X1, tyX1_ok, nmX1, rfl, by decide +kernel⟩
theorem fl_X3_77 : FL RX3 77 1 0 := ⟨RX1, TX1, 9, rfl, by decide, BG_t (List.mem_of_getElem? (i := 206) (by decide +kernel)) (by decide +kernel), rfl, uw_X1⟩
theorem fp_X3_77 : FP RX3 77 1 0 .int true := ⟨RX1, TX1, 9, tyX1, rfl, by decide, BG_t (List.mem_of_getElem? (i := 206) (by decide +kernel)) (by decide +kernel), rfl, uw_X1, tyX1_ok, nmX1, rfl, by decide +kernel⟩
theorem fl_X1_13 : FL RX1 13 1 1 := ⟨RX1, TX1, 9, rfl, by decide, BG_t (List.mem_of_getElem? (i := 207) (by decide +kernel)) (by decide +kernel), rfl, uw_X1⟩
theorem fp_X1_13 : FP RX1 13 1 1 .int true := ⟨RX1, TX1, 9, tyX1, rfl, by decide, BG_t (List.mem_of_getElem? (i := 207) (by decide +kernel)) (by decide +kernel), rfl, uw_X1, tyX1_ok, nmX1, rfl, by decide +kernel⟩
theorem fl_X3_129 : FL RX3 129 1 1 := ⟨RX1, TX1, 9, rfl, by decide, BG_t (List.mem_of_getElem? (i := 208) (by decide +kernel)) (by decide +kernel), rfl, uw_X1⟩
theorem fp_X3_129 : FP RX3 129 1 1 .int true := ⟨RX1, TX1, 9, tyX1, rfl, by decide, BG_t (List.mem_of_getElem? (i := 208) (by decide +kernel)) (by decide +kernel), rfl, uw_X1, tyX1_ok, nmX1, rfl, by decide +kernel⟩
theorem fl_X1_16 : FL RX1 16 1 2 := ⟨RX1, TX1, 9, rfl, by decide, BG_t (List.mem_of_getElem? (i := 209) (by decide +kernel)) (by decide +kernel), rfl, uw_X1⟩
theorem fp_X1_16 : FP RX1 16 1 2 .int true := ⟨RX1, TX1, 9, tyX1, rfl, by decide, BG_t (List.mem_of_getElem? (i := 209) (by decide +kernel)) (by decide +kernel), rfl, uw_X1, tyX1_ok, nmX1, rfl, by decide +kernel⟩
theorem fl_X3_213 : FL RX3 213 1 2 := ⟨RX1, TX1, 9, rfl, by decide, BG_t (List.mem_of_getElem? (i := 210) (by decide +kernel)) (by decide +kernel), rfl, uw_X1⟩
theorem fp_X3_213 : FP RX3 213 1 2 .int true := ⟨RX1, TX1, 9, tyX1, rfl, by decide, BG_t (List.mem_of_getElem? (i := 210) (by decide +kernel)) (by decide +kernel), rfl, uw_X1, tyX1_ok, nmX1, rfl, by decide +kernel⟩
theorem fl_X1_19 : FL RX1 19 1 3 := ⟨RX1, TX1, 9, rfl, by decide, BG_t (List.mem_of_getElem? (i := 211) (by decide +kernel)) (by decide +kernel), rfl, uw_X1⟩
theorem fp_X1_19 : FP RX1 19 1 3 .int false := ⟨RX1, TX1, 9, tyX1, rfl, by decide, BG_t (List.mem_of_getElem? (i := 211) (by decide +kernel)) (by decide +kernel), rfl, uw_X1, tyX1_ok, nmX1, rfl, by decide +kernel⟩
theorem fl_X3_146 : FL RX3 146 1 3 := ⟨RX1, TX1, 9, rfl, by decide, BG_t (List.mem_of_getElem? (i := 212) (by decide +kernel)) (by decide +kernel), rfl, uw_X1⟩
theorem fp_X3_146 : FP RX3 146 1 3 .int false := ⟨RX1, TX1, 9, tyX1, rfl, by decide, BG_t (List.mem_of_getElem? (i := 212) (by decide +kernel)) (by decide +kernel), rfl, uw_X1, tyX1_ok, nmX1, rfl, by decide +kernel⟩
theorem fl_X3_50 : FL RX3 50 1 4 := ⟨RX1, TX1, 9, rfl, by decide, BG_t (List.mem_of_getElem? (i := 213) (by decide +kernel)) (by decide +kernel), rfl, uw_X1⟩
theorem fp_X3_50 : FP RX3 50 1 4 (.object "Calibratory$Instrument") false := ⟨RX1, TX1, 9, tyX1, rfl, by decide, BG_t (List.mem_of_getElem? (i := 213) (by decide +kernel)) (by decide +kernel), rfl, uw_X1, tyX1_ok, nmX1, rfl, by decide +kernel⟩
theorem fl_X3_95 : FL RX3 95 1 5 := ⟨RX1, TX1, 9, rfl, by decide, BG_t (List.mem_of_getElem? (i := 214) (by decide +kernel)) (by decide +kernel), rfl, uw_X1⟩
theorem fp_X3_95 : FP RX3 95 1 5 (.object "Calibratory$Calibration") false := ⟨RX1, TX1, 9, tyX1, rfl, by decide, BG_t (List.mem_of_getElem? (i := 214) (by decide +kernel)) (by decide +kernel), rfl, uw_X1, tyX1_ok, nmX1, rfl, by decide +kernel⟩
theorem fl_X3_136 : FL RX3 136 1 6 := ⟨RX1, TX1, 9, rfl, by decide, BG_t (List.mem_of_getElem? (i := 215) (by decide +kernel)) (by decide +kernel), rfl, uw_X1⟩
theorem fp_X3_136 : FP RX3 136 1 6 .int false := ⟨RX1, TX1, 9, tyX1, rfl, by decide, BG_t (List.mem_of_getElem? (i := 215) (by decide +kernel)) (by decide +kernel), rfl, uw_X1, tyX1_ok, nmX1, rfl, by decide +kernel⟩
theorem fl_X3_172 : FL RX3 172 1 7 := ⟨RX1, TX1, 9, rfl, by decide, BG_t (List.mem_of_getElem? (i := 216) (by decide +kernel)) (by decide +kernel), rfl, uw_X1⟩
theorem fp_X3_172 : FP RX3 172 1 7 .long false := ⟨RX1, TX1, 9, tyX1, rfl, by decide, BG_t (List.mem_of_getElem? (i := 216) (by decide +kernel)) (by decide +kernel), rfl, uw_X1, tyX1_ok, nmX1, rfl, by decide +kernel⟩
theorem fl_X3_176 : FL RX3 176 1 8 := ⟨RX1, TX1, 9, rfl, by decide, BG_t (List.mem_of_getElem? (i := 217) (by decide +kernel)) (by decide +kernel), rfl, uw_X1⟩
theorem fp_X3_176 : FP RX3 176 1 8 .long false := ⟨RX1, TX1, 9, tyX1, rfl, by decide, BG_t (List.mem_of_getElem? (i := 217) (by decide +kernel)) (by decide +kernel), rfl, uw_X1, tyX1_ok, nmX1, rfl, by decide +kernel⟩
theorem sw_L_96 : Cond.methodLink RL 96 yL_refer ∈ BG ∧ Cond.static yL_refer ∈ BG ∧ Cond.initialized yL_refer.cls ∈ BG ∧ Cond.codeWith yL_refer cL_refer 5 (some .int) [(0, 10, 13, 13), (0, 10, 17, 17)] ∈ BG ∧ (yL_refer.cls ≠ "java/lang/invoke/MethodHandle" ∧ yL_refer.cls ≠ "java/lang/invoke/VarHandle") ∧ (parseMethodDescriptor yL_refer.desc).map (fun d => d.parameters.length) = some 4 := ⟨BG_t (List.mem_of_getElem? (i := 237) (by decide +kernel)) (by decide +kernel), BG_t (List.mem_of_getElem? (i := 238) (by decide +kernel)) (by decide +kernel), BG_t (List.mem_of_getElem? (i := 0) (by decide +kernel)) (by decide +kernel), BG_t (List.mem_of_getElem? (i := 239) (by decide +kernel)) (by decide +kernel), by decide +kernel, by decide +kernel⟩
theorem sv_L_19 : SV RL RX3 19 yX3_refer cX3_refer 6 (some .int) 2 := ⟨BG_t (List.mem_of_getElem? (i := 240) (by decide +kernel)) (by decide +kernel), BG_t (List.mem_of_getElem? (i := 241) (by decide +kernel)) (by decide +kernel), BG_t (List.mem_of_getElem? (i := 242) (by decide +kernel)) (by decide +kernel), BG_t (List.mem_of_getElem? (i := 1) (by decide +kernel)) (by decide +kernel), BG_t (List.mem_of_getElem? (i := 243) (by decide +kernel)) (by decide +kernel), by decide +kernel, by decide +kernel⟩
theorem ss_X3_57 : SS RX3 57 yX3_isInChain cX3_isInChain 3 (some .boolean) 2 := ⟨BG_t (List.mem_of_getElem? (i := 244) (by decide +kernel)) (by decide +kernel), BG_t (List.mem_of_getElem? (i := 245) (by decide +kernel)) (by decide +kernel), BG_t (List.mem_of_getElem? (i := 1) (by decide +kernel)) (by decide +kernel), BG_t (List.mem_of_getElem? (i := 246) (by decide +kernel)) (by decide +kernel), by decide +kernel, by decide +kernel⟩
theorem ss_X3_63 : SS RX3 63 yX3_numberOf cX3_numberOf 1 (some .int) 1 := ⟨BG_t (List.mem_of_getElem? (i := 248) (by decide +kernel)) (by decide +kernel), BG_t (List.mem_of_getElem? (i := 249) (by decide +kernel)) (by decide +kernel), BG_t (List.mem_of_getElem? (i := 1) (by decide +kernel)) (by decide +kernel), BG_t (List.mem_of_getElem? (i := 250) (by decide +kernel)) (by decide +kernel), by decide +kernel, by decide +kernel⟩
theorem sw_L_100 : Cond.methodLink RL 100 yL_pass ∈ BG ∧ Cond.static yL_pass ∈ BG ∧ Cond.initialized yL_pass.cls ∈ BG ∧ Cond.codeWith yL_pass cL_pass 4 (some .int) [(0, 9, 12, 15)] ∈ BG ∧ (yL_pass.cls ≠ "java/lang/invoke/MethodHandle" ∧ yL_pass.cls ≠ "java/lang/invoke/VarHandle") ∧ (parseMethodDescriptor yL_pass.desc).map (fun d => d.parameters.length) = some 3 := ⟨BG_t (List.mem_of_getElem? (i := 251) (by decide +kernel)) (by decide +kernel), BG_t (List.mem_of_getElem? (i := 252) (by decide +kernel)) (by decide +kernel), BG_t (List.mem_of_getElem? (i := 0) (by decide +kernel)) (by decide +kernel), BG_t (List.mem_of_getElem? (i := 253) (by decide +kernel)) (by decide +kernel), by decide +kernel, by decide +kernel⟩
theorem sv_L_23 : SV RL RX3 23 yX3_pass cX3_pass 2 (some .int) 1 := ⟨BG_t (List.mem_of_getElem? (i := 254) (by decide +kernel)) (by decide +kernel), BG_t (List.mem_of_getElem? (i := 255) (by decide +kernel)) (by decide +kernel), BG_t (List.mem_of_getElem? (i := 256) (by decide +kernel)) (by decide +kernel), BG_t (List.mem_of_getElem? (i := 1) (by decide +kernel)) (by decide +kernel), BG_t (List.mem_of_getElem? (i := 257) (by decide +kernel)) (by decide +kernel), by decide +kernel, by decide +kernel⟩
theorem sw_L_112 : Cond.methodLink RL 112 yL_calibrate ∈ BG ∧ Cond.static yL_calibrate ∈ BG ∧ Cond.initialized yL_calibrate.cls ∈ BG ∧ Cond.codeWith yL_calibrate cL_calibrate 6 (some .int) [(0, 12, 15, 13), (0, 12, 19, 15), (0, 12, 23, 17)] ∈ BG ∧ (yL_calibrate.cls ≠ "java/lang/invoke/MethodHandle" ∧ yL_calibrate.cls ≠ "java/lang/invoke/VarHandle") ∧ (parseMethodDescriptor yL_calibrate.desc).map (fun d => d.parameters.length) = some 5 := ⟨BG_t (List.mem_of_getElem? (i := 259) (by decide +kernel)) (by decide +kernel), BG_t (List.mem_of_getElem? (i := 260) (by decide +kernel)) (by decide +kernel), BG_t (List.mem_of_getElem? (i := 0) (by decide +kernel)) (by decide +kernel), BG_t (List.mem_of_getElem? (i := 261) (by decide +kernel)) (by decide +kernel), by decide +kernel, by decide +kernel⟩
theorem sv_L_27 : SV RL RX3 27 yX3_calibrate cX3_calibrate 9 (some .int) 3 := ⟨BG_t (List.mem_of_getElem? (i := 262) (by decide +kernel)) (by decide +kernel), BG_t (List.mem_of_getElem? (i := 263) (by decide +kernel)) (by decide +kernel), BG_t (List.mem_of_getElem? (i := 264) (by decide +kernel)) (by decide +kernel), BG_t (List.mem_of_getElem? (i := 1) (by decide +kernel)) (by decide +kernel), BG_t (List.mem_of_getElem? (i := 265) (by decide +kernel)) (by decide +kernel), by decide +kernel, by decide +kernel⟩
theorem ss_X3_80 : SS RX3 80 yX3_isNoError cX3_isNoError 1 (some .boolean) 1 := ⟨BG_t (List.mem_of_getElem? (i := 266) (by decide +kernel)) (by decide +kernel), BG_t (List.mem_of_getElem? (i := 267) (by decide +kernel)) (by decide +kernel), BG_t (List.mem_of_getElem? (i := 1) (by decide +kernel)) (by decide +kernel), BG_t (List.mem_of_getElem? (i := 268) (by decide +kernel)) (by decide +kernel), by decide +kernel, by decide +kernel⟩
theorem sv_X3_86 : SV RX3 RX3 86 yX3_firstOutOfForce cX3_firstOutOfForce 3 (some (.object "Calibratory$Instrument")) 1 := ⟨BG_t (List.mem_of_getElem? (i := 272) (by decide +kernel)) (by decide +kernel), BG_t (List.mem_of_getElem? (i := 274) (by decide +kernel)) (by decide +kernel), BG_in (List.mem_append_left _ (List.mem_of_getElem? (i := 4) (by decide +kernel))) (by decide +kernel), BG_t (List.mem_of_getElem? (i := 1) (by decide +kernel)) (by decide +kernel), BG_t (List.mem_of_getElem? (i := 275) (by decide +kernel)) (by decide +kernel), by decide +kernel, by decide +kernel⟩
theorem sv_X3_189 : SV RX3 RX3 189 yX3_isInForce cX3_isInForce 2 (some .boolean) 1 := ⟨BG_t (List.mem_of_getElem? (i := 276) (by decide +kernel)) (by decide +kernel), BG_t (List.mem_of_getElem? (i := 278) (by decide +kernel)) (by decide +kernel), BG_in (List.mem_append_left _ (List.mem_of_getElem? (i := 5) (by decide +kernel))) (by decide +kernel), BG_t (List.mem_of_getElem? (i := 1) (by decide +kernel)) (by decide +kernel), BG_t (List.mem_of_getElem? (i := 279) (by decide +kernel)) (by decide +kernel), by decide +kernel, by decide +kernel⟩
theorem ss_X3_182 : SS RX3 182 yX3_dueDay cX3_dueDay 2 (some .int) 2 := ⟨BG_t (List.mem_of_getElem? (i := 280) (by decide +kernel)) (by decide +kernel), BG_t (List.mem_of_getElem? (i := 281) (by decide +kernel)) (by decide +kernel), BG_t (List.mem_of_getElem? (i := 1) (by decide +kernel)) (by decide +kernel), BG_t (List.mem_of_getElem? (i := 282) (by decide +kernel)) (by decide +kernel), by decide +kernel, by decide +kernel⟩
theorem si_X3_102 : SI RX3 102 yX0_init cX0_init 6 5 := ⟨BG_t (List.mem_of_getElem? (i := 285) (by decide +kernel)) (by decide +kernel), BG_t (List.mem_of_getElem? (i := 286) (by decide +kernel)) (by decide +kernel), BG_t (List.mem_of_getElem? (i := 10) (by decide +kernel)) (by decide +kernel), BG_t (List.mem_of_getElem? (i := 287) (by decide +kernel)) (by decide +kernel), rfl, by decide +kernel, by decide +kernel⟩
theorem oi_X0_3 : Cond.methodLink RX0 3 Lib.objectInit ∈ BG ∧ Cond.instanceMethod Lib.objectInit ∈ BG ∧ Cond.code Lib.objectInit ⟨#[0xb1]⟩ 1 none ∈ BG := ⟨BG_t (List.mem_of_getElem? (i := 288) (by decide +kernel)) (by decide +kernel), BG_t (List.mem_of_getElem? (i := 19) (by decide +kernel)) (by decide +kernel), BG_t (List.mem_of_getElem? (i := 20) (by decide +kernel)) (by decide +kernel)⟩
theorem fl_X0_9 : FL RX0 9 0 0 := ⟨RX0, TX0, 10, rfl, by decide, BG_t (List.mem_of_getElem? (i := 290) (by decide +kernel)) (by decide +kernel), rfl, uw_X0⟩
theorem fp_X0_9 : FP RX0 9 0 0 .int true := ⟨RX0, TX0, 10, tyX0, rfl, by decide, BG_t (List.mem_of_getElem? (i := 290) (by decide +kernel)) (by decide +kernel), rfl, uw_X0, tyX0_ok, nmX0, rfl, by decide +kernel⟩
theorem fl_X3_161 : FL RX3 161 0 0 := ⟨RX0, TX0, 10, rfl, by decide, BG_t (List.mem_of_getElem? (i := 291) (by decide +kernel)) (by decide +kernel), rfl, uw_X0⟩
theorem fp_X3_161 : FP RX3 161 0 0 .int true := ⟨RX0, TX0, 10, tyX0, rfl, by decide, BG_t (List.mem_of_getElem? (i := 291) (by decide +kernel)) (by decide +kernel), rfl, uw_X0, tyX0_ok, nmX0, rfl, by decide +kernel⟩
theorem fl_X0_15 : FL RX0 15 0 1 := ⟨RX0, TX0, 10, rfl, by decide, BG_t (List.mem_of_getElem? (i := 292) (by decide +kernel)) (by decide +kernel), rfl, uw_X0⟩
theorem fp_X0_15 : FP RX0 15 0 1 .int true := ⟨RX0, TX0, 10, tyX0, rfl, by decide, BG_t (List.mem_of_getElem? (i := 292) (by decide +kernel)) (by decide +kernel), rfl, uw_X0, tyX0_ok, nmX0, rfl, by decide +kernel⟩
theorem fl_X3_149 : FL RX3 149 0 1 := ⟨RX0, TX0, 10, rfl, by decide, BG_t (List.mem_of_getElem? (i := 293) (by decide +kernel)) (by decide +kernel), rfl, uw_X0⟩
theorem fp_X3_149 : FP RX3 149 0 1 .int true := ⟨RX0, TX0, 10, tyX0, rfl, by decide, BG_t (List.mem_of_getElem? (i := 293) (by decide +kernel)) (by decide +kernel), rfl, uw_X0, tyX0_ok, nmX0, rfl, by decide +kernel⟩
theorem fl_X0_18 : FL RX0 18 0 2 := ⟨RX0, TX0, 10, rfl, by decide, BG_t (List.mem_of_getElem? (i := 294) (by decide +kernel)) (by decide +kernel), rfl, uw_X0⟩
theorem fp_X0_18 : FP RX0 18 0 2 .int true := ⟨RX0, TX0, 10, tyX0, rfl, by decide, BG_t (List.mem_of_getElem? (i := 294) (by decide +kernel)) (by decide +kernel), rfl, uw_X0, tyX0_ok, nmX0, rfl, by decide +kernel⟩
theorem fl_X3_155 : FL RX3 155 0 2 := ⟨RX0, TX0, 10, rfl, by decide, BG_t (List.mem_of_getElem? (i := 295) (by decide +kernel)) (by decide +kernel), rfl, uw_X0⟩
theorem fp_X3_155 : FP RX3 155 0 2 .int true := ⟨RX0, TX0, 10, tyX0, rfl, by decide, BG_t (List.mem_of_getElem? (i := 295) (by decide +kernel)) (by decide +kernel), rfl, uw_X0, tyX0_ok, nmX0, rfl, by decide +kernel⟩
theorem fl_X0_21 : FL RX0 21 0 3 := ⟨RX0, TX0, 10, rfl, by decide, BG_t (List.mem_of_getElem? (i := 296) (by decide +kernel)) (by decide +kernel), rfl, uw_X0⟩
theorem fp_X0_21 : FP RX0 21 0 3 (.object "Calibratory$Calibration") true := ⟨RX0, TX0, 10, tyX0, rfl, by decide, BG_t (List.mem_of_getElem? (i := 296) (by decide +kernel)) (by decide +kernel), rfl, uw_X0, tyX0_ok, nmX0, rfl, by decide +kernel⟩
theorem fl_X3_179 : FL RX3 179 0 3 := ⟨RX0, TX0, 10, rfl, by decide, BG_t (List.mem_of_getElem? (i := 297) (by decide +kernel)) (by decide +kernel), rfl, uw_X0⟩
theorem fp_X3_179 : FP RX3 179 0 3 (.object "Calibratory$Calibration") true := ⟨RX0, TX0, 10, tyX0, rfl, by decide, BG_t (List.mem_of_getElem? (i := 297) (by decide +kernel)) (by decide +kernel), rfl, uw_X0, tyX0_ok, nmX0, rfl, by decide +kernel⟩
theorem fl_X0_25 : FL RX0 25 0 4 := ⟨RX0, TX0, 10, rfl, by decide, BG_t (List.mem_of_getElem? (i := 298) (by decide +kernel)) (by decide +kernel), rfl, uw_X0⟩
theorem fp_X0_25 : FP RX0 25 0 4 (.object "Calibratory$Calibration") true := ⟨RX0, TX0, 10, tyX0, rfl, by decide, BG_t (List.mem_of_getElem? (i := 298) (by decide +kernel)) (by decide +kernel), rfl, uw_X0, tyX0_ok, nmX0, rfl, by decide +kernel⟩
theorem fl_X3_234 : FL RX3 234 0 4 := ⟨RX0, TX0, 10, rfl, by decide, BG_t (List.mem_of_getElem? (i := 299) (by decide +kernel)) (by decide +kernel), rfl, uw_X0⟩
theorem fp_X3_234 : FP RX3 234 0 4 (.object "Calibratory$Calibration") true := ⟨RX0, TX0, 10, tyX0, rfl, by decide, BG_t (List.mem_of_getElem? (i := 299) (by decide +kernel)) (by decide +kernel), rfl, uw_X0, tyX0_ok, nmX0, rfl, by decide +kernel⟩
theorem fl_X3_132 : FL RX3 132 0 5 := ⟨RX0, TX0, 10, rfl, by decide, BG_t (List.mem_of_getElem? (i := 300) (by decide +kernel)) (by decide +kernel), rfl, uw_X0⟩
theorem fp_X3_132 : FP RX3 132 0 5 .boolean false := ⟨RX0, TX0, 10, tyX0, rfl, by decide, BG_t (List.mem_of_getElem? (i := 300) (by decide +kernel)) (by decide +kernel), rfl, uw_X0, tyX0_ok, nmX0, rfl, by decide +kernel⟩
theorem fl_X3_186 : FL RX3 186 0 6 := ⟨RX0, TX0, 10, rfl, by decide, BG_t (List.mem_of_getElem? (i := 301) (by decide +kernel)) (by decide +kernel), rfl, uw_X0⟩
theorem fp_X3_186 : FP RX3 186 0 6 .boolean false := ⟨RX0, TX0, 10, tyX0, rfl, by decide, BG_t (List.mem_of_getElem? (i := 301) (by decide +kernel)) (by decide +kernel), rfl, uw_X0, tyX0_ok, nmX0, rfl, by decide +kernel⟩
theorem fl_X0_29 : FL RX0 29 0 7 := ⟨RX0, TX0, 10, rfl, by decide, BG_t (List.mem_of_getElem? (i := 302) (by decide +kernel)) (by decide +kernel), rfl, uw_X0⟩
theorem fp_X0_29 : FP RX0 29 0 7 .int false := ⟨RX0, TX0, 10, tyX0, rfl, by decide, BG_t (List.mem_of_getElem? (i := 302) (by decide +kernel)) (by decide +kernel), rfl, uw_X0, tyX0_ok, nmX0, rfl, by decide +kernel⟩
theorem fl_X3_162 : FL RX3 162 0 7 := ⟨RX0, TX0, 10, rfl, by decide, BG_t (List.mem_of_getElem? (i := 303) (by decide +kernel)) (by decide +kernel), rfl, uw_X0⟩
theorem fp_X3_162 : FP RX3 162 0 7 .int false := ⟨RX0, TX0, 10, tyX0, rfl, by decide, BG_t (List.mem_of_getElem? (i := 303) (by decide +kernel)) (by decide +kernel), rfl, uw_X0, tyX0_ok, nmX0, rfl, by decide +kernel⟩
theorem fl_X3_152 : FL RX3 152 0 8 := ⟨RX0, TX0, 10, rfl, by decide, BG_t (List.mem_of_getElem? (i := 304) (by decide +kernel)) (by decide +kernel), rfl, uw_X0⟩
theorem fp_X3_152 : FP RX3 152 0 8 .int false := ⟨RX0, TX0, 10, tyX0, rfl, by decide, BG_t (List.mem_of_getElem? (i := 304) (by decide +kernel)) (by decide +kernel), rfl, uw_X0, tyX0_ok, nmX0, rfl, by decide +kernel⟩
theorem fl_X3_158 : FL RX3 158 0 9 := ⟨RX0, TX0, 10, rfl, by decide, BG_t (List.mem_of_getElem? (i := 305) (by decide +kernel)) (by decide +kernel), rfl, uw_X0⟩
theorem fp_X3_158 : FP RX3 158 0 9 .int false := ⟨RX0, TX0, 10, tyX0, rfl, by decide, BG_t (List.mem_of_getElem? (i := 305) (by decide +kernel)) (by decide +kernel), rfl, uw_X0, tyX0_ok, nmX0, rfl, by decide +kernel⟩
theorem sv_X3_105 : SV RX3 RX3 105 yX3_settle cX3_settle 7 (some .int) 4 := ⟨BG_t (List.mem_of_getElem? (i := 327) (by decide +kernel)) (by decide +kernel), BG_t (List.mem_of_getElem? (i := 329) (by decide +kernel)) (by decide +kernel), BG_in (List.mem_append_left _ (List.mem_of_getElem? (i := 6) (by decide +kernel))) (by decide +kernel), BG_t (List.mem_of_getElem? (i := 1) (by decide +kernel)) (by decide +kernel), BG_t (List.mem_of_getElem? (i := 330) (by decide +kernel)) (by decide +kernel), by decide +kernel, by decide +kernel⟩
theorem ss_X3_123 : SS RX3 123 yJ9_abs_0f7a4 cJ9_abs_0f7a4 1 (some .int) 1 := ⟨BG_t (List.mem_of_getElem? (i := 331) (by decide +kernel)) (by decide +kernel), BG_t (List.mem_of_getElem? (i := 332) (by decide +kernel)) (by decide +kernel), BG_t (List.mem_of_getElem? (i := 11) (by decide +kernel)) (by decide +kernel), BG_t (List.mem_of_getElem? (i := 333) (by decide +kernel)) (by decide +kernel), by decide +kernel, by decide +kernel⟩
theorem sv_X3_138 : SV RX3 RX3 138 yX3_callBack cX3_callBack 7 (some .int) 1 := ⟨BG_t (List.mem_of_getElem? (i := 334) (by decide +kernel)) (by decide +kernel), BG_t (List.mem_of_getElem? (i := 336) (by decide +kernel)) (by decide +kernel), BG_in (List.mem_append_left _ (List.mem_of_getElem? (i := 7) (by decide +kernel))) (by decide +kernel), BG_t (List.mem_of_getElem? (i := 1) (by decide +kernel)) (by decide +kernel), BG_t (List.mem_of_getElem? (i := 337) (by decide +kernel)) (by decide +kernel), by decide +kernel, by decide +kernel⟩
theorem sv_X3_242 : SV RX3 RX3 242 yX3_isAtStake cX3_isAtStake 3 (some .boolean) 2 := ⟨BG_t (List.mem_of_getElem? (i := 338) (by decide +kernel)) (by decide +kernel), BG_t (List.mem_of_getElem? (i := 340) (by decide +kernel)) (by decide +kernel), BG_in (List.mem_append_left _ (List.mem_of_getElem? (i := 8) (by decide +kernel))) (by decide +kernel), BG_t (List.mem_of_getElem? (i := 1) (by decide +kernel)) (by decide +kernel), BG_t (List.mem_of_getElem? (i := 341) (by decide +kernel)) (by decide +kernel), by decide +kernel, by decide +kernel⟩
theorem ss_X3_142 : SS RX3 142 yX3_nextInterval cX3_nextInterval 2 (some .int) 2 := ⟨BG_t (List.mem_of_getElem? (i := 342) (by decide +kernel)) (by decide +kernel), BG_t (List.mem_of_getElem? (i := 343) (by decide +kernel)) (by decide +kernel), BG_t (List.mem_of_getElem? (i := 1) (by decide +kernel)) (by decide +kernel), BG_t (List.mem_of_getElem? (i := 344) (by decide +kernel)) (by decide +kernel), by decide +kernel, by decide +kernel⟩
theorem ss_X3_165 : SS RX3 165 yJ9_max_7cf53 cJ9_max_7cf53 2 (some .int) 2 := ⟨BG_t (List.mem_of_getElem? (i := 345) (by decide +kernel)) (by decide +kernel), BG_t (List.mem_of_getElem? (i := 346) (by decide +kernel)) (by decide +kernel), BG_t (List.mem_of_getElem? (i := 11) (by decide +kernel)) (by decide +kernel), BG_t (List.mem_of_getElem? (i := 347) (by decide +kernel)) (by decide +kernel), by decide +kernel, by decide +kernel⟩
theorem ss_X3_169 : SS RX3 169 yJ9_min_7cf53 cJ9_min_7cf53 2 (some .int) 2 := ⟨BG_t (List.mem_of_getElem? (i := 348) (by decide +kernel)) (by decide +kernel), BG_t (List.mem_of_getElem? (i := 349) (by decide +kernel)) (by decide +kernel), BG_t (List.mem_of_getElem? (i := 11) (by decide +kernel)) (by decide +kernel), BG_t (List.mem_of_getElem? (i := 350) (by decide +kernel)) (by decide +kernel), by decide +kernel, by decide +kernel⟩
theorem ss_X3_109 : SS RX3 109 yX3_sumPoints cX3_sumPoints 3 none 1 := ⟨BG_t (List.mem_of_getElem? (i := 351) (by decide +kernel)) (by decide +kernel), BG_t (List.mem_of_getElem? (i := 352) (by decide +kernel)) (by decide +kernel), BG_t (List.mem_of_getElem? (i := 1) (by decide +kernel)) (by decide +kernel), BG_t (List.mem_of_getElem? (i := 353) (by decide +kernel)) (by decide +kernel), by decide +kernel, by decide +kernel⟩
theorem sw_L_116 : Cond.methodLink RL 116 yL_measure ∈ BG ∧ Cond.static yL_measure ∈ BG ∧ Cond.initialized yL_measure.cls ∈ BG ∧ Cond.codeWith yL_measure cL_measure 4 (some .int) [(0, 9, 12, 13), (0, 9, 15, 17)] ∈ BG ∧ (yL_measure.cls ≠ "java/lang/invoke/MethodHandle" ∧ yL_measure.cls ≠ "java/lang/invoke/VarHandle") ∧ (parseMethodDescriptor yL_measure.desc).map (fun d => d.parameters.length) = some 3 := ⟨BG_t (List.mem_of_getElem? (i := 354) (by decide +kernel)) (by decide +kernel), BG_t (List.mem_of_getElem? (i := 355) (by decide +kernel)) (by decide +kernel), BG_t (List.mem_of_getElem? (i := 0) (by decide +kernel)) (by decide +kernel), BG_t (List.mem_of_getElem? (i := 356) (by decide +kernel)) (by decide +kernel), by decide +kernel, by decide +kernel⟩
theorem sv_L_31 : SV RL RX3 31 yX3_measure cX3_measure 4 (some .int) 1 := ⟨BG_t (List.mem_of_getElem? (i := 357) (by decide +kernel)) (by decide +kernel), BG_t (List.mem_of_getElem? (i := 358) (by decide +kernel)) (by decide +kernel), BG_t (List.mem_of_getElem? (i := 359) (by decide +kernel)) (by decide +kernel), BG_t (List.mem_of_getElem? (i := 1) (by decide +kernel)) (by decide +kernel), BG_t (List.mem_of_getElem? (i := 360) (by decide +kernel)) (by decide +kernel), by decide +kernel, by decide +kernel⟩
theorem si_X3_118 : SI RX3 118 yX2_init cX2_init 3 2 := ⟨BG_t (List.mem_of_getElem? (i := 363) (by decide +kernel)) (by decide +kernel), BG_t (List.mem_of_getElem? (i := 364) (by decide +kernel)) (by decide +kernel), BG_t (List.mem_of_getElem? (i := 12) (by decide +kernel)) (by decide +kernel), BG_t (List.mem_of_getElem? (i := 365) (by decide +kernel)) (by decide +kernel), rfl, by decide +kernel, by decide +kernel⟩
theorem oi_X2_1 : Cond.methodLink RX2 1 Lib.objectInit ∈ BG ∧ Cond.instanceMethod Lib.objectInit ∈ BG ∧ Cond.code Lib.objectInit ⟨#[0xb1]⟩ 1 none ∈ BG := ⟨BG_t (List.mem_of_getElem? (i := 366) (by decide +kernel)) (by decide +kernel), BG_t (List.mem_of_getElem? (i := 19) (by decide +kernel)) (by decide +kernel), BG_t (List.mem_of_getElem? (i := 20) (by decide +kernel)) (by decide +kernel)⟩
theorem fl_X2_7 : FL RX2 7 2 0 := ⟨RX2, TX2, 3, rfl, by decide, BG_t (List.mem_of_getElem? (i := 367) (by decide +kernel)) (by decide +kernel), rfl, uw_X2⟩
theorem fp_X2_7 : FP RX2 7 2 0 .int true := ⟨RX2, TX2, 3, tyX2, rfl, by decide, BG_t (List.mem_of_getElem? (i := 367) (by decide +kernel)) (by decide +kernel), rfl, uw_X2, tyX2_ok, nmX2, rfl, by decide +kernel⟩
theorem fl_X3_246 : FL RX3 246 2 0 := ⟨RX2, TX2, 3, rfl, by decide, BG_t (List.mem_of_getElem? (i := 368) (by decide +kernel)) (by decide +kernel), rfl, uw_X2⟩
theorem fp_X3_246 : FP RX3 246 2 0 .int true := ⟨RX2, TX2, 3, tyX2, rfl, by decide, BG_t (List.mem_of_getElem? (i := 368) (by decide +kernel)) (by decide +kernel), rfl, uw_X2, tyX2_ok, nmX2, rfl, by decide +kernel⟩
theorem fl_X2_13 : FL RX2 13 2 1 := ⟨RX2, TX2, 3, rfl, by decide, BG_t (List.mem_of_getElem? (i := 369) (by decide +kernel)) (by decide +kernel), rfl, uw_X2⟩
theorem fp_X2_13 : FP RX2 13 2 1 (.object "Calibratory$Calibration") true := ⟨RX2, TX2, 3, tyX2, rfl, by decide, BG_t (List.mem_of_getElem? (i := 369) (by decide +kernel)) (by decide +kernel), rfl, uw_X2, tyX2_ok, nmX2, rfl, by decide +kernel⟩
theorem fl_X3_237 : FL RX3 237 2 1 := ⟨RX2, TX2, 3, rfl, by decide, BG_t (List.mem_of_getElem? (i := 370) (by decide +kernel)) (by decide +kernel), rfl, uw_X2⟩
theorem fp_X3_237 : FP RX3 237 2 1 (.object "Calibratory$Calibration") true := ⟨RX2, TX2, 3, tyX2, rfl, by decide, BG_t (List.mem_of_getElem? (i := 370) (by decide +kernel)) (by decide +kernel), rfl, uw_X2, tyX2_ok, nmX2, rfl, by decide +kernel⟩
theorem fl_X3_221 : FL RX3 221 2 2 := ⟨RX2, TX2, 3, rfl, by decide, BG_t (List.mem_of_getElem? (i := 371) (by decide +kernel)) (by decide +kernel), rfl, uw_X2⟩
theorem fp_X3_221 : FP RX3 221 2 2 .boolean false := ⟨RX2, TX2, 3, tyX2, rfl, by decide, BG_t (List.mem_of_getElem? (i := 371) (by decide +kernel)) (by decide +kernel), rfl, uw_X2, tyX2_ok, nmX2, rfl, by decide +kernel⟩
theorem sw_L_119 : Cond.methodLink RL 119 yL_intervalOf ∈ BG ∧ Cond.static yL_intervalOf ∈ BG ∧ Cond.initialized yL_intervalOf.cls ∈ BG ∧ Cond.codeWith yL_intervalOf cL_intervalOf 4 (some .int) [(0, 9, 12, 13)] ∈ BG ∧ (yL_intervalOf.cls ≠ "java/lang/invoke/MethodHandle" ∧ yL_intervalOf.cls ≠ "java/lang/invoke/VarHandle") ∧ (parseMethodDescriptor yL_intervalOf.desc).map (fun d => d.parameters.length) = some 3 := ⟨BG_t (List.mem_of_getElem? (i := 379) (by decide +kernel)) (by decide +kernel), BG_t (List.mem_of_getElem? (i := 380) (by decide +kernel)) (by decide +kernel), BG_t (List.mem_of_getElem? (i := 0) (by decide +kernel)) (by decide +kernel), BG_t (List.mem_of_getElem? (i := 381) (by decide +kernel)) (by decide +kernel), by decide +kernel, by decide +kernel⟩
theorem sv_L_34 : SV RL RX3 34 yX3_intervalOf cX3_intervalOf 2 (some .int) 1 := ⟨BG_t (List.mem_of_getElem? (i := 382) (by decide +kernel)) (by decide +kernel), BG_t (List.mem_of_getElem? (i := 383) (by decide +kernel)) (by decide +kernel), BG_t (List.mem_of_getElem? (i := 384) (by decide +kernel)) (by decide +kernel), BG_t (List.mem_of_getElem? (i := 1) (by decide +kernel)) (by decide +kernel), BG_t (List.mem_of_getElem? (i := 385) (by decide +kernel)) (by decide +kernel), by decide +kernel, by decide +kernel⟩
theorem sw_L_122 : Cond.methodLink RL 122 yL_dueOf ∈ BG ∧ Cond.static yL_dueOf ∈ BG ∧ Cond.initialized yL_dueOf.cls ∈ BG ∧ Cond.codeWith yL_dueOf cL_dueOf 4 (some .int) [(0, 9, 12, 13)] ∈ BG ∧ (yL_dueOf.cls ≠ "java/lang/invoke/MethodHandle" ∧ yL_dueOf.cls ≠ "java/lang/invoke/VarHandle") ∧ (parseMethodDescriptor yL_dueOf.desc).map (fun d => d.parameters.length) = some 3 := ⟨BG_t (List.mem_of_getElem? (i := 386) (by decide +kernel)) (by decide +kernel), BG_t (List.mem_of_getElem? (i := 387) (by decide +kernel)) (by decide +kernel), BG_t (List.mem_of_getElem? (i := 0) (by decide +kernel)) (by decide +kernel), BG_t (List.mem_of_getElem? (i := 388) (by decide +kernel)) (by decide +kernel), by decide +kernel, by decide +kernel⟩
theorem sv_L_37 : SV RL RX3 37 yX3_dueOf cX3_dueOf 3 (some .int) 1 := ⟨BG_t (List.mem_of_getElem? (i := 389) (by decide +kernel)) (by decide +kernel), BG_t (List.mem_of_getElem? (i := 390) (by decide +kernel)) (by decide +kernel), BG_t (List.mem_of_getElem? (i := 391) (by decide +kernel)) (by decide +kernel), BG_t (List.mem_of_getElem? (i := 1) (by decide +kernel)) (by decide +kernel), BG_t (List.mem_of_getElem? (i := 392) (by decide +kernel)) (by decide +kernel), by decide +kernel, by decide +kernel⟩
theorem sw_L_125 : Cond.methodLink RL 125 yL_isSuspect ∈ BG ∧ Cond.static yL_isSuspect ∈ BG ∧ Cond.initialized yL_isSuspect.cls ∈ BG ∧ Cond.codeWith yL_isSuspect cL_isSuspect 4 (some .int) [(0, 16, 19, 13)] ∈ BG ∧ (yL_isSuspect.cls ≠ "java/lang/invoke/MethodHandle" ∧ yL_isSuspect.cls ≠ "java/lang/invoke/VarHandle") ∧ (parseMethodDescriptor yL_isSuspect.desc).map (fun d => d.parameters.length) = some 3 := ⟨BG_t (List.mem_of_getElem? (i := 393) (by decide +kernel)) (by decide +kernel), BG_t (List.mem_of_getElem? (i := 394) (by decide +kernel)) (by decide +kernel), BG_t (List.mem_of_getElem? (i := 0) (by decide +kernel)) (by decide +kernel), BG_t (List.mem_of_getElem? (i := 395) (by decide +kernel)) (by decide +kernel), by decide +kernel, by decide +kernel⟩
theorem sv_L_40 : SV RL RX3 40 yX3_isSuspect cX3_isSuspect 3 (some .boolean) 1 := ⟨BG_t (List.mem_of_getElem? (i := 396) (by decide +kernel)) (by decide +kernel), BG_t (List.mem_of_getElem? (i := 397) (by decide +kernel)) (by decide +kernel), BG_t (List.mem_of_getElem? (i := 398) (by decide +kernel)) (by decide +kernel), BG_t (List.mem_of_getElem? (i := 1) (by decide +kernel)) (by decide +kernel), BG_t (List.mem_of_getElem? (i := 399) (by decide +kernel)) (by decide +kernel), by decide +kernel, by decide +kernel⟩
theorem sw_L_128 : Cond.methodLink RL 128 yL_distrusted ∈ BG ∧ Cond.static yL_distrusted ∈ BG ∧ Cond.initialized yL_distrusted.cls ∈ BG ∧ Cond.codeWith yL_distrusted cL_distrusted 4 (some .int) [(0, 9, 12, 13)] ∈ BG ∧ (yL_distrusted.cls ≠ "java/lang/invoke/MethodHandle" ∧ yL_distrusted.cls ≠ "java/lang/invoke/VarHandle") ∧ (parseMethodDescriptor yL_distrusted.desc).map (fun d => d.parameters.length) = some 3 := ⟨BG_t (List.mem_of_getElem? (i := 400) (by decide +kernel)) (by decide +kernel), BG_t (List.mem_of_getElem? (i := 401) (by decide +kernel)) (by decide +kernel), BG_t (List.mem_of_getElem? (i := 0) (by decide +kernel)) (by decide +kernel), BG_t (List.mem_of_getElem? (i := 402) (by decide +kernel)) (by decide +kernel), by decide +kernel, by decide +kernel⟩
theorem sv_L_44 : SV RL RX3 44 yX3_distrusted cX3_distrusted 2 (some .int) 1 := ⟨BG_t (List.mem_of_getElem? (i := 403) (by decide +kernel)) (by decide +kernel), BG_t (List.mem_of_getElem? (i := 404) (by decide +kernel)) (by decide +kernel), BG_t (List.mem_of_getElem? (i := 405) (by decide +kernel)) (by decide +kernel), BG_t (List.mem_of_getElem? (i := 1) (by decide +kernel)) (by decide +kernel), BG_t (List.mem_of_getElem? (i := 406) (by decide +kernel)) (by decide +kernel), by decide +kernel, by decide +kernel⟩
theorem sw_L_131 : Cond.methodLink RL 131 yL_chain ∈ BG ∧ Cond.static yL_chain ∈ BG ∧ Cond.initialized yL_chain.cls ∈ BG ∧ Cond.codeWith yL_chain cL_chain 4 (some .int) [(0, 9, 12, 13)] ∈ BG ∧ (yL_chain.cls ≠ "java/lang/invoke/MethodHandle" ∧ yL_chain.cls ≠ "java/lang/invoke/VarHandle") ∧ (parseMethodDescriptor yL_chain.desc).map (fun d => d.parameters.length) = some 3 := ⟨BG_t (List.mem_of_getElem? (i := 407) (by decide +kernel)) (by decide +kernel), BG_t (List.mem_of_getElem? (i := 408) (by decide +kernel)) (by decide +kernel), BG_t (List.mem_of_getElem? (i := 0) (by decide +kernel)) (by decide +kernel), BG_t (List.mem_of_getElem? (i := 409) (by decide +kernel)) (by decide +kernel), by decide +kernel, by decide +kernel⟩
theorem sv_L_47 : SV RL RX3 47 yX3_chain cX3_chain 4 (some .int) 1 := ⟨BG_t (List.mem_of_getElem? (i := 410) (by decide +kernel)) (by decide +kernel), BG_t (List.mem_of_getElem? (i := 411) (by decide +kernel)) (by decide +kernel), BG_t (List.mem_of_getElem? (i := 412) (by decide +kernel)) (by decide +kernel), BG_t (List.mem_of_getElem? (i := 1) (by decide +kernel)) (by decide +kernel), BG_t (List.mem_of_getElem? (i := 413) (by decide +kernel)) (by decide +kernel), by decide +kernel, by decide +kernel⟩
theorem sw_L_134 : Cond.methodLink RL 134 yL_failures ∈ BG ∧ Cond.static yL_failures ∈ BG ∧ Cond.initialized yL_failures.cls ∈ BG ∧ Cond.codeWith yL_failures cL_failures 4 (some .int) [(0, 9, 12, 13)] ∈ BG ∧ (yL_failures.cls ≠ "java/lang/invoke/MethodHandle" ∧ yL_failures.cls ≠ "java/lang/invoke/VarHandle") ∧ (parseMethodDescriptor yL_failures.desc).map (fun d => d.parameters.length) = some 3 := ⟨BG_t (List.mem_of_getElem? (i := 414) (by decide +kernel)) (by decide +kernel), BG_t (List.mem_of_getElem? (i := 415) (by decide +kernel)) (by decide +kernel), BG_t (List.mem_of_getElem? (i := 0) (by decide +kernel)) (by decide +kernel), BG_t (List.mem_of_getElem? (i := 416) (by decide +kernel)) (by decide +kernel), by decide +kernel, by decide +kernel⟩
theorem sv_L_50 : SV RL RX3 50 yX3_failures cX3_failures 2 (some .int) 1 := ⟨BG_t (List.mem_of_getElem? (i := 417) (by decide +kernel)) (by decide +kernel), BG_t (List.mem_of_getElem? (i := 418) (by decide +kernel)) (by decide +kernel), BG_t (List.mem_of_getElem? (i := 419) (by decide +kernel)) (by decide +kernel), BG_t (List.mem_of_getElem? (i := 1) (by decide +kernel)) (by decide +kernel), BG_t (List.mem_of_getElem? (i := 420) (by decide +kernel)) (by decide +kernel), by decide +kernel, by decide +kernel⟩
theorem sw_L_137 : Cond.methodLink RL 137 yL_slope ∈ BG ∧ Cond.static yL_slope ∈ BG ∧ Cond.initialized yL_slope.cls ∈ BG ∧ Cond.codeWith yL_slope cL_slope 4 (some .int) [(0, 8, 11, 13)] ∈ BG ∧ (yL_slope.cls ≠ "java/lang/invoke/MethodHandle" ∧ yL_slope.cls ≠ "java/lang/invoke/VarHandle") ∧ (parseMethodDescriptor yL_slope.desc).map (fun d => d.parameters.length) = some 3 := ⟨BG_t (List.mem_of_getElem? (i := 421) (by decide +kernel)) (by decide +kernel), BG_t (List.mem_of_getElem? (i := 422) (by decide +kernel)) (by decide +kernel), BG_t (List.mem_of_getElem? (i := 0) (by decide +kernel)) (by decide +kernel), BG_t (List.mem_of_getElem? (i := 423) (by decide +kernel)) (by decide +kernel), by decide +kernel, by decide +kernel⟩
theorem sv_L_53 : SV RL RX3 53 yX3_slope cX3_slope 3 (some .double) 1 := ⟨BG_t (List.mem_of_getElem? (i := 424) (by decide +kernel)) (by decide +kernel), BG_t (List.mem_of_getElem? (i := 425) (by decide +kernel)) (by decide +kernel), BG_t (List.mem_of_getElem? (i := 426) (by decide +kernel)) (by decide +kernel), BG_t (List.mem_of_getElem? (i := 1) (by decide +kernel)) (by decide +kernel), BG_t (List.mem_of_getElem? (i := 427) (by decide +kernel)) (by decide +kernel), by decide +kernel, by decide +kernel⟩
theorem sw_L_141 : Cond.methodLink RL 141 yL_expected ∈ BG ∧ Cond.static yL_expected ∈ BG ∧ Cond.initialized yL_expected.cls ∈ BG ∧ Cond.codeWith yL_expected cL_expected 5 (some .int) [(0, 9, 12, 13), (0, 9, 16, 15), (0, 9, 20, 17)] ∈ BG ∧ (yL_expected.cls ≠ "java/lang/invoke/MethodHandle" ∧ yL_expected.cls ≠ "java/lang/invoke/VarHandle") ∧ (parseMethodDescriptor yL_expected.desc).map (fun d => d.parameters.length) = some 4 := ⟨BG_t (List.mem_of_getElem? (i := 428) (by decide +kernel)) (by decide +kernel), BG_t (List.mem_of_getElem? (i := 429) (by decide +kernel)) (by decide +kernel), BG_t (List.mem_of_getElem? (i := 0) (by decide +kernel)) (by decide +kernel), BG_t (List.mem_of_getElem? (i := 430) (by decide +kernel)) (by decide +kernel), by decide +kernel, by decide +kernel⟩
theorem sv_L_57 : SV RL RX3 57 yX3_expected cX3_expected 4 (some .long) 2 := ⟨BG_t (List.mem_of_getElem? (i := 431) (by decide +kernel)) (by decide +kernel), BG_t (List.mem_of_getElem? (i := 432) (by decide +kernel)) (by decide +kernel), BG_t (List.mem_of_getElem? (i := 433) (by decide +kernel)) (by decide +kernel), BG_t (List.mem_of_getElem? (i := 1) (by decide +kernel)) (by decide +kernel), BG_t (List.mem_of_getElem? (i := 434) (by decide +kernel)) (by decide +kernel), by decide +kernel, by decide +kernel⟩
theorem ss_X3_195 : SS RX3 195 yX3_errorAfter cX3_errorAfter 3 (some .long) 3 := ⟨BG_t (List.mem_of_getElem? (i := 436) (by decide +kernel)) (by decide +kernel), BG_t (List.mem_of_getElem? (i := 437) (by decide +kernel)) (by decide +kernel), BG_t (List.mem_of_getElem? (i := 1) (by decide +kernel)) (by decide +kernel), BG_t (List.mem_of_getElem? (i := 438) (by decide +kernel)) (by decide +kernel), by decide +kernel, by decide +kernel⟩
theorem ss_X3_206 : SS RX3 206 yJ9_floorDiv_f86c9 cJ9_floorDiv_f86c9 6 (some .long) 2 := ⟨BG_t (List.mem_of_getElem? (i := 439) (by decide +kernel)) (by decide +kernel), BG_t (List.mem_of_getElem? (i := 440) (by decide +kernel)) (by decide +kernel), BG_t (List.mem_of_getElem? (i := 11) (by decide +kernel)) (by decide +kernel), BG_t (List.mem_of_getElem? (i := 441) (by decide +kernel)) (by decide +kernel), by decide +kernel, by decide +kernel⟩
theorem sw_L_144 : Cond.methodLink RL 144 yL_driftsOut ∈ BG ∧ Cond.static yL_driftsOut ∈ BG ∧ Cond.initialized yL_driftsOut.cls ∈ BG ∧ Cond.codeWith yL_driftsOut cL_driftsOut 4 (some .int) [(0, 9, 12, 13)] ∈ BG ∧ (yL_driftsOut.cls ≠ "java/lang/invoke/MethodHandle" ∧ yL_driftsOut.cls ≠ "java/lang/invoke/VarHandle") ∧ (parseMethodDescriptor yL_driftsOut.desc).map (fun d => d.parameters.length) = some 3 := ⟨BG_t (List.mem_of_getElem? (i := 442) (by decide +kernel)) (by decide +kernel), BG_t (List.mem_of_getElem? (i := 443) (by decide +kernel)) (by decide +kernel), BG_t (List.mem_of_getElem? (i := 0) (by decide +kernel)) (by decide +kernel), BG_t (List.mem_of_getElem? (i := 444) (by decide +kernel)) (by decide +kernel), by decide +kernel, by decide +kernel⟩
theorem sv_L_61 : SV RL RX3 61 yX3_driftsOut cX3_driftsOut 6 (some .int) 1 := ⟨BG_t (List.mem_of_getElem? (i := 445) (by decide +kernel)) (by decide +kernel), BG_t (List.mem_of_getElem? (i := 446) (by decide +kernel)) (by decide +kernel), BG_t (List.mem_of_getElem? (i := 447) (by decide +kernel)) (by decide +kernel), BG_t (List.mem_of_getElem? (i := 1) (by decide +kernel)) (by decide +kernel), BG_t (List.mem_of_getElem? (i := 448) (by decide +kernel)) (by decide +kernel), by decide +kernel, by decide +kernel⟩
theorem ss_X3_199 : SS RX3 199 yX3_isOutAfter cX3_isOutAfter 3 (some .boolean) 3 := ⟨BG_t (List.mem_of_getElem? (i := 449) (by decide +kernel)) (by decide +kernel), BG_t (List.mem_of_getElem? (i := 450) (by decide +kernel)) (by decide +kernel), BG_t (List.mem_of_getElem? (i := 1) (by decide +kernel)) (by decide +kernel), BG_t (List.mem_of_getElem? (i := 451) (by decide +kernel)) (by decide +kernel), by decide +kernel, by decide +kernel⟩
theorem ss_X3_210 : SS RX3 210 yJ9_abs_067f4 cJ9_abs_067f4 2 (some .long) 1 := ⟨BG_t (List.mem_of_getElem? (i := 452) (by decide +kernel)) (by decide +kernel), BG_t (List.mem_of_getElem? (i := 453) (by decide +kernel)) (by decide +kernel), BG_t (List.mem_of_getElem? (i := 11) (by decide +kernel)) (by decide +kernel), BG_t (List.mem_of_getElem? (i := 454) (by decide +kernel)) (by decide +kernel), by decide +kernel, by decide +kernel⟩
theorem sw_L_147 : Cond.methodLink RL 147 yL_uncertainty ∈ BG ∧ Cond.static yL_uncertainty ∈ BG ∧ Cond.initialized yL_uncertainty.cls ∈ BG ∧ Cond.codeWith yL_uncertainty cL_uncertainty 4 (some .int) [(0, 9, 12, 13)] ∈ BG ∧ (yL_uncertainty.cls ≠ "java/lang/invoke/MethodHandle" ∧ yL_uncertainty.cls ≠ "java/lang/invoke/VarHandle") ∧ (parseMethodDescriptor yL_uncertainty.desc).map (fun d => d.parameters.length) = some 3 := ⟨BG_t (List.mem_of_getElem? (i := 455) (by decide +kernel)) (by decide +kernel), BG_t (List.mem_of_getElem? (i := 456) (by decide +kernel)) (by decide +kernel), BG_t (List.mem_of_getElem? (i := 0) (by decide +kernel)) (by decide +kernel), BG_t (List.mem_of_getElem? (i := 457) (by decide +kernel)) (by decide +kernel), by decide +kernel, by decide +kernel⟩
theorem sv_L_64 : SV RL RX3 64 yX3_uncertainty cX3_uncertainty 2 (some .int) 1 := ⟨BG_t (List.mem_of_getElem? (i := 458) (by decide +kernel)) (by decide +kernel), BG_t (List.mem_of_getElem? (i := 459) (by decide +kernel)) (by decide +kernel), BG_t (List.mem_of_getElem? (i := 460) (by decide +kernel)) (by decide +kernel), BG_t (List.mem_of_getElem? (i := 1) (by decide +kernel)) (by decide +kernel), BG_t (List.mem_of_getElem? (i := 461) (by decide +kernel)) (by decide +kernel), by decide +kernel, by decide +kernel⟩
theorem ss_X3_203 : SS RX3 203 yX3_uncertaintyWithChain cX3_uncertaintyWithChain 3 (some .int) 2 := ⟨BG_t (List.mem_of_getElem? (i := 462) (by decide +kernel)) (by decide +kernel), BG_t (List.mem_of_getElem? (i := 463) (by decide +kernel)) (by decide +kernel), BG_t (List.mem_of_getElem? (i := 1) (by decide +kernel)) (by decide +kernel), BG_t (List.mem_of_getElem? (i := 464) (by decide +kernel)) (by decide +kernel), by decide +kernel, by decide +kernel⟩
theorem ss_X3_216 : SS RX3 216 yX3_leastRoot cX3_leastRoot 3 (some .int) 1 := ⟨BG_t (List.mem_of_getElem? (i := 465) (by decide +kernel)) (by decide +kernel), BG_t (List.mem_of_getElem? (i := 466) (by decide +kernel)) (by decide +kernel), BG_t (List.mem_of_getElem? (i := 1) (by decide +kernel)) (by decide +kernel), BG_t (List.mem_of_getElem? (i := 467) (by decide +kernel)) (by decide +kernel), by decide +kernel, by decide +kernel⟩
theorem sw_L_150 : Cond.methodLink RL 150 yL_limit ∈ BG ∧ Cond.static yL_limit ∈ BG ∧ Cond.initialized yL_limit.cls ∈ BG ∧ Cond.codeWith yL_limit cL_limit 4 (some .int) [(0, 9, 12, 13)] ∈ BG ∧ (yL_limit.cls ≠ "java/lang/invoke/MethodHandle" ∧ yL_limit.cls ≠ "java/lang/invoke/VarHandle") ∧ (parseMethodDescriptor yL_limit.desc).map (fun d => d.parameters.length) = some 3 := ⟨BG_t (List.mem_of_getElem? (i := 468) (by decide +kernel)) (by decide +kernel), BG_t (List.mem_of_getElem? (i := 469) (by decide +kernel)) (by decide +kernel), BG_t (List.mem_of_getElem? (i := 0) (by decide +kernel)) (by decide +kernel), BG_t (List.mem_of_getElem? (i := 470) (by decide +kernel)) (by decide +kernel), by decide +kernel, by decide +kernel⟩
theorem sv_L_67 : SV RL RX3 67 yX3_limit cX3_limit 3 (some .int) 1 := ⟨BG_t (List.mem_of_getElem? (i := 471) (by decide +kernel)) (by decide +kernel), BG_t (List.mem_of_getElem? (i := 472) (by decide +kernel)) (by decide +kernel), BG_t (List.mem_of_getElem? (i := 473) (by decide +kernel)) (by decide +kernel), BG_t (List.mem_of_getElem? (i := 1) (by decide +kernel)) (by decide +kernel), BG_t (List.mem_of_getElem? (i := 474) (by decide +kernel)) (by decide +kernel), by decide +kernel, by decide +kernel⟩
theorem sw_L_157 : Cond.methodLink RL 157 yL_isCalledBack ∈ BG ∧ Cond.static yL_isCalledBack ∈ BG ∧ Cond.initialized yL_isCalledBack.cls ∈ BG ∧ Cond.codeWith yL_isCalledBack cL_isCalledBack 4 (some .int) [(0, 16, 19, 13)] ∈ BG ∧ (yL_isCalledBack.cls ≠ "java/lang/invoke/MethodHandle" ∧ yL_isCalledBack.cls ≠ "java/lang/invoke/VarHandle") ∧ (parseMethodDescriptor yL_isCalledBack.desc).map (fun d => d.parameters.length) = some 3 := ⟨BG_t (List.mem_of_getElem? (i := 475) (by decide +kernel)) (by decide +kernel), BG_t (List.mem_of_getElem? (i := 476) (by decide +kernel)) (by decide +kernel), BG_t (List.mem_of_getElem? (i := 0) (by decide +kernel)) (by decide +kernel), BG_t (List.mem_of_getElem? (i := 477) (by decide +kernel)) (by decide +kernel), by decide +kernel, by decide +kernel⟩
theorem sv_L_70 : SV RL RX3 70 yX3_isCalledBack cX3_isCalledBack 3 (some .boolean) 1 := ⟨BG_t (List.mem_of_getElem? (i := 478) (by decide +kernel)) (by decide +kernel), BG_t (List.mem_of_getElem? (i := 479) (by decide +kernel)) (by decide +kernel), BG_t (List.mem_of_getElem? (i := 480) (by decide +kernel)) (by decide +kernel), BG_t (List.mem_of_getElem? (i := 1) (by decide +kernel)) (by decide +kernel), BG_t (List.mem_of_getElem? (i := 481) (by decide +kernel)) (by decide +kernel), by decide +kernel, by decide +kernel⟩
theorem sw_L_168 : Cond.methodLink RL 168 yL_atStake ∈ BG ∧ Cond.static yL_atStake ∈ BG ∧ Cond.initialized yL_atStake.cls ∈ BG ∧ Cond.codeWith yL_atStake cL_atStake 4 (some .int) [(0, 9, 12, 13)] ∈ BG ∧ (yL_atStake.cls ≠ "java/lang/invoke/MethodHandle" ∧ yL_atStake.cls ≠ "java/lang/invoke/VarHandle") ∧ (parseMethodDescriptor yL_atStake.desc).map (fun d => d.parameters.length) = some 3 := ⟨BG_t (List.mem_of_getElem? (i := 483) (by decide +kernel)) (by decide +kernel), BG_t (List.mem_of_getElem? (i := 484) (by decide +kernel)) (by decide +kernel), BG_t (List.mem_of_getElem? (i := 0) (by decide +kernel)) (by decide +kernel), BG_t (List.mem_of_getElem? (i := 485) (by decide +kernel)) (by decide +kernel), by decide +kernel, by decide +kernel⟩
theorem sv_L_73 : SV RL RX3 73 yX3_atStake cX3_atStake 3 (some .int) 1 := ⟨BG_t (List.mem_of_getElem? (i := 486) (by decide +kernel)) (by decide +kernel), BG_t (List.mem_of_getElem? (i := 487) (by decide +kernel)) (by decide +kernel), BG_t (List.mem_of_getElem? (i := 488) (by decide +kernel)) (by decide +kernel), BG_t (List.mem_of_getElem? (i := 1) (by decide +kernel)) (by decide +kernel), BG_t (List.mem_of_getElem? (i := 489) (by decide +kernel)) (by decide +kernel), by decide +kernel, by decide +kernel⟩
theorem sv_X3_231 : SV RX3 RX3 231 yX3_countAtStake cX3_countAtStake 4 (some .int) 1 := ⟨BG_t (List.mem_of_getElem? (i := 490) (by decide +kernel)) (by decide +kernel), BG_t (List.mem_of_getElem? (i := 492) (by decide +kernel)) (by decide +kernel), BG_in (List.mem_append_left _ (List.mem_of_getElem? (i := 9) (by decide +kernel))) (by decide +kernel), BG_t (List.mem_of_getElem? (i := 1) (by decide +kernel)) (by decide +kernel), BG_t (List.mem_of_getElem? (i := 493) (by decide +kernel)) (by decide +kernel), by decide +kernel, by decide +kernel⟩
theorem sw_L_171 : Cond.methodLink RL 171 yL_benchDay ∈ BG ∧ Cond.static yL_benchDay ∈ BG ∧ Cond.initialized yL_benchDay.cls ∈ BG ∧ Cond.codeWith yL_benchDay cL_benchDay 5 (some .int) [(0, 10, 13, 13), (0, 10, 17, 15)] ∈ BG ∧ (yL_benchDay.cls ≠ "java/lang/invoke/MethodHandle" ∧ yL_benchDay.cls ≠ "java/lang/invoke/VarHandle") ∧ (parseMethodDescriptor yL_benchDay.desc).map (fun d => d.parameters.length) = some 4 := ⟨BG_t (List.mem_of_getElem? (i := 494) (by decide +kernel)) (by decide +kernel), BG_t (List.mem_of_getElem? (i := 495) (by decide +kernel)) (by decide +kernel), BG_t (List.mem_of_getElem? (i := 0) (by decide +kernel)) (by decide +kernel), BG_t (List.mem_of_getElem? (i := 496) (by decide +kernel)) (by decide +kernel), by decide +kernel, by decide +kernel⟩
theorem sv_L_76 : SV RL RX3 76 yX3_benchDay cX3_benchDay 4 (some .int) 2 := ⟨BG_t (List.mem_of_getElem? (i := 497) (by decide +kernel)) (by decide +kernel), BG_t (List.mem_of_getElem? (i := 498) (by decide +kernel)) (by decide +kernel), BG_t (List.mem_of_getElem? (i := 499) (by decide +kernel)) (by decide +kernel), BG_t (List.mem_of_getElem? (i := 1) (by decide +kernel)) (by decide +kernel), BG_t (List.mem_of_getElem? (i := 500) (by decide +kernel)) (by decide +kernel), by decide +kernel, by decide +kernel⟩
theorem sv_X3_249 : SV RX3 RX3 249 yX3_countAhead cX3_countAhead 10 (some .int) 2 := ⟨BG_t (List.mem_of_getElem? (i := 502) (by decide +kernel)) (by decide +kernel), BG_t (List.mem_of_getElem? (i := 504) (by decide +kernel)) (by decide +kernel), BG_in (List.mem_append_left _ (List.mem_of_getElem? (i := 10) (by decide +kernel))) (by decide +kernel), BG_t (List.mem_of_getElem? (i := 1) (by decide +kernel)) (by decide +kernel), BG_t (List.mem_of_getElem? (i := 505) (by decide +kernel)) (by decide +kernel), by decide +kernel, by decide +kernel⟩
theorem sw_L_174 : Cond.methodLink RL 174 yL_late ∈ BG ∧ Cond.static yL_late ∈ BG ∧ Cond.initialized yL_late.cls ∈ BG ∧ Cond.codeWith yL_late cL_late 4 (some .int) [(0, 9, 12, 15)] ∈ BG ∧ (yL_late.cls ≠ "java/lang/invoke/MethodHandle" ∧ yL_late.cls ≠ "java/lang/invoke/VarHandle") ∧ (parseMethodDescriptor yL_late.desc).map (fun d => d.parameters.length) = some 3 := ⟨BG_t (List.mem_of_getElem? (i := 506) (by decide +kernel)) (by decide +kernel), BG_t (List.mem_of_getElem? (i := 507) (by decide +kernel)) (by decide +kernel), BG_t (List.mem_of_getElem? (i := 0) (by decide +kernel)) (by decide +kernel), BG_t (List.mem_of_getElem? (i := 508) (by decide +kernel)) (by decide +kernel), by decide +kernel, by decide +kernel⟩
theorem sv_L_79 : SV RL RX3 79 yX3_late cX3_late 7 (some .int) 1 := ⟨BG_t (List.mem_of_getElem? (i := 509) (by decide +kernel)) (by decide +kernel), BG_t (List.mem_of_getElem? (i := 510) (by decide +kernel)) (by decide +kernel), BG_t (List.mem_of_getElem? (i := 511) (by decide +kernel)) (by decide +kernel), BG_t (List.mem_of_getElem? (i := 1) (by decide +kernel)) (by decide +kernel), BG_t (List.mem_of_getElem? (i := 512) (by decide +kernel)) (by decide +kernel), by decide +kernel, by decide +kernel⟩
theorem si_L_85 : SI RL 85 yX4_init cX4_init 1 0 := ⟨BG_t (List.mem_of_getElem? (i := 515) (by decide +kernel)) (by decide +kernel), BG_t (List.mem_of_getElem? (i := 516) (by decide +kernel)) (by decide +kernel), BG_t (List.mem_of_getElem? (i := 2) (by decide +kernel)) (by decide +kernel), BG_t (List.mem_of_getElem? (i := 517) (by decide +kernel)) (by decide +kernel), rfl, by decide +kernel, by decide +kernel⟩
theorem oi_X4_1 : Cond.methodLink RX4 1 Lib.objectInit ∈ BG ∧ Cond.instanceMethod Lib.objectInit ∈ BG ∧ Cond.code Lib.objectInit ⟨#[0xb1]⟩ 1 none ∈ BG := ⟨BG_t (List.mem_of_getElem? (i := 518) (by decide +kernel)) (by decide +kernel), BG_t (List.mem_of_getElem? (i := 19) (by decide +kernel)) (by decide +kernel), BG_t (List.mem_of_getElem? (i := 20) (by decide +kernel)) (by decide +kernel)⟩
theorem fl_X4_62 : FL RX4 62 4 0 := ⟨RX4, TX4, 22, rfl, by decide, BG_t (List.mem_of_getElem? (i := 519) (by decide +kernel)) (by decide +kernel), rfl, uw_X4⟩
theorem fp_X4_62 : FP RX4 62 4 0 .int false := ⟨RX4, TX4, 22, tyX4, rfl, by decide, BG_t (List.mem_of_getElem? (i := 519) (by decide +kernel)) (by decide +kernel), rfl, uw_X4, tyX4_ok, nmX4, rfl, by decide +kernel⟩
theorem fl_X4_80 : FL RX4 80 4 1 := ⟨RX4, TX4, 22, rfl, by decide, BG_t (List.mem_of_getElem? (i := 520) (by decide +kernel)) (by decide +kernel), rfl, uw_X4⟩
theorem fp_X4_80 : FP RX4 80 4 1 .int false := ⟨RX4, TX4, 22, tyX4, rfl, by decide, BG_t (List.mem_of_getElem? (i := 520) (by decide +kernel)) (by decide +kernel), rfl, uw_X4, tyX4_ok, nmX4, rfl, by decide +kernel⟩
theorem fl_X4_66 : FL RX4 66 4 2 := ⟨RX4, TX4, 22, rfl, by decide, BG_t (List.mem_of_getElem? (i := 521) (by decide +kernel)) (by decide +kernel), rfl, uw_X4⟩
theorem fp_X4_66 : FP RX4 66 4 2 .int false := ⟨RX4, TX4, 22, tyX4, rfl, by decide, BG_t (List.mem_of_getElem? (i := 521) (by decide +kernel)) (by decide +kernel), rfl, uw_X4, tyX4_ok, nmX4, rfl, by decide +kernel⟩
theorem fl_X4_118 : FL RX4 118 4 3 := ⟨RX4, TX4, 22, rfl, by decide, BG_t (List.mem_of_getElem? (i := 522) (by decide +kernel)) (by decide +kernel), rfl, uw_X4⟩
theorem fp_X4_118 : FP RX4 118 4 3 .int false := ⟨RX4, TX4, 22, tyX4, rfl, by decide, BG_t (List.mem_of_getElem? (i := 522) (by decide +kernel)) (by decide +kernel), rfl, uw_X4, tyX4_ok, nmX4, rfl, by decide +kernel⟩
theorem fl_X4_7 : FL RX4 7 4 4 := ⟨RX4, TX4, 22, rfl, by decide, BG_t (List.mem_of_getElem? (i := 523) (by decide +kernel)) (by decide +kernel), rfl, uw_X4⟩
theorem fp_X4_7 : FP RX4 7 4 4 (.array .int) true := ⟨RX4, TX4, 22, tyX4, rfl, by decide, BG_t (List.mem_of_getElem? (i := 523) (by decide +kernel)) (by decide +kernel), rfl, uw_X4, tyX4_ok, nmX4, rfl, by decide +kernel⟩
theorem fl_X4_13 : FL RX4 13 4 5 := ⟨RX4, TX4, 22, rfl, by decide, BG_t (List.mem_of_getElem? (i := 524) (by decide +kernel)) (by decide +kernel), rfl, uw_X4⟩
theorem fp_X4_13 : FP RX4 13 4 5 (.array .int) true := ⟨RX4, TX4, 22, tyX4, rfl, by decide, BG_t (List.mem_of_getElem? (i := 524) (by decide +kernel)) (by decide +kernel), rfl, uw_X4, tyX4_ok, nmX4, rfl, by decide +kernel⟩
theorem fl_X4_16 : FL RX4 16 4 6 := ⟨RX4, TX4, 22, rfl, by decide, BG_t (List.mem_of_getElem? (i := 525) (by decide +kernel)) (by decide +kernel), rfl, uw_X4⟩
theorem fp_X4_16 : FP RX4 16 4 6 (.array .int) true := ⟨RX4, TX4, 22, tyX4, rfl, by decide, BG_t (List.mem_of_getElem? (i := 525) (by decide +kernel)) (by decide +kernel), rfl, uw_X4, tyX4_ok, nmX4, rfl, by decide +kernel⟩
theorem fl_X4_19 : FL RX4 19 4 7 := ⟨RX4, TX4, 22, rfl, by decide, BG_t (List.mem_of_getElem? (i := 526) (by decide +kernel)) (by decide +kernel), rfl, uw_X4⟩
theorem fp_X4_19 : FP RX4 19 4 7 (.array .int) true := ⟨RX4, TX4, 22, tyX4, rfl, by decide, BG_t (List.mem_of_getElem? (i := 526) (by decide +kernel)) (by decide +kernel), rfl, uw_X4, tyX4_ok, nmX4, rfl, by decide +kernel⟩
theorem fl_X4_22 : FL RX4 22 4 8 := ⟨RX4, TX4, 22, rfl, by decide, BG_t (List.mem_of_getElem? (i := 527) (by decide +kernel)) (by decide +kernel), rfl, uw_X4⟩
theorem fp_X4_22 : FP RX4 22 4 8 (.array .int) true := ⟨RX4, TX4, 22, tyX4, rfl, by decide, BG_t (List.mem_of_getElem? (i := 527) (by decide +kernel)) (by decide +kernel), rfl, uw_X4, tyX4_ok, nmX4, rfl, by decide +kernel⟩
theorem fl_X4_25 : FL RX4 25 4 9 := ⟨RX4, TX4, 22, rfl, by decide, BG_t (List.mem_of_getElem? (i := 528) (by decide +kernel)) (by decide +kernel), rfl, uw_X4⟩
theorem fp_X4_25 : FP RX4 25 4 9 (.array .int) true := ⟨RX4, TX4, 22, tyX4, rfl, by decide, BG_t (List.mem_of_getElem? (i := 528) (by decide +kernel)) (by decide +kernel), rfl, uw_X4, tyX4_ok, nmX4, rfl, by decide +kernel⟩
theorem fl_X4_28 : FL RX4 28 4 10 := ⟨RX4, TX4, 22, rfl, by decide, BG_t (List.mem_of_getElem? (i := 529) (by decide +kernel)) (by decide +kernel), rfl, uw_X4⟩
theorem fp_X4_28 : FP RX4 28 4 10 (.array .int) true := ⟨RX4, TX4, 22, tyX4, rfl, by decide, BG_t (List.mem_of_getElem? (i := 529) (by decide +kernel)) (by decide +kernel), rfl, uw_X4, tyX4_ok, nmX4, rfl, by decide +kernel⟩
theorem fl_X4_31 : FL RX4 31 4 11 := ⟨RX4, TX4, 22, rfl, by decide, BG_t (List.mem_of_getElem? (i := 530) (by decide +kernel)) (by decide +kernel), rfl, uw_X4⟩
theorem fp_X4_31 : FP RX4 31 4 11 (.array .int) true := ⟨RX4, TX4, 22, tyX4, rfl, by decide, BG_t (List.mem_of_getElem? (i := 530) (by decide +kernel)) (by decide +kernel), rfl, uw_X4, tyX4_ok, nmX4, rfl, by decide +kernel⟩
theorem fl_X4_34 : FL RX4 34 4 12 := ⟨RX4, TX4, 22, rfl, by decide, BG_t (List.mem_of_getElem? (i := 531) (by decide +kernel)) (by decide +kernel), rfl, uw_X4⟩
theorem fp_X4_34 : FP RX4 34 4 12 (.array .int) true := ⟨RX4, TX4, 22, tyX4, rfl, by decide, BG_t (List.mem_of_getElem? (i := 531) (by decide +kernel)) (by decide +kernel), rfl, uw_X4, tyX4_ok, nmX4, rfl, by decide +kernel⟩
theorem fl_X4_37 : FL RX4 37 4 13 := ⟨RX4, TX4, 22, rfl, by decide, BG_t (List.mem_of_getElem? (i := 532) (by decide +kernel)) (by decide +kernel), rfl, uw_X4⟩
theorem fp_X4_37 : FP RX4 37 4 13 (.array .boolean) true := ⟨RX4, TX4, 22, tyX4, rfl, by decide, BG_t (List.mem_of_getElem? (i := 532) (by decide +kernel)) (by decide +kernel), rfl, uw_X4, tyX4_ok, nmX4, rfl, by decide +kernel⟩
theorem fl_X4_41 : FL RX4 41 4 14 := ⟨RX4, TX4, 22, rfl, by decide, BG_t (List.mem_of_getElem? (i := 533) (by decide +kernel)) (by decide +kernel), rfl, uw_X4⟩
theorem fp_X4_41 : FP RX4 41 4 14 (.array .int) true := ⟨RX4, TX4, 22, tyX4, rfl, by decide, BG_t (List.mem_of_getElem? (i := 533) (by decide +kernel)) (by decide +kernel), rfl, uw_X4, tyX4_ok, nmX4, rfl, by decide +kernel⟩
theorem fl_X4_44 : FL RX4 44 4 15 := ⟨RX4, TX4, 22, rfl, by decide, BG_t (List.mem_of_getElem? (i := 534) (by decide +kernel)) (by decide +kernel), rfl, uw_X4⟩
theorem fp_X4_44 : FP RX4 44 4 15 (.array .int) true := ⟨RX4, TX4, 22, tyX4, rfl, by decide, BG_t (List.mem_of_getElem? (i := 534) (by decide +kernel)) (by decide +kernel), rfl, uw_X4, tyX4_ok, nmX4, rfl, by decide +kernel⟩
theorem fl_X4_47 : FL RX4 47 4 16 := ⟨RX4, TX4, 22, rfl, by decide, BG_t (List.mem_of_getElem? (i := 535) (by decide +kernel)) (by decide +kernel), rfl, uw_X4⟩
theorem fp_X4_47 : FP RX4 47 4 16 (.array .int) true := ⟨RX4, TX4, 22, tyX4, rfl, by decide, BG_t (List.mem_of_getElem? (i := 535) (by decide +kernel)) (by decide +kernel), rfl, uw_X4, tyX4_ok, nmX4, rfl, by decide +kernel⟩
theorem fl_X4_50 : FL RX4 50 4 17 := ⟨RX4, TX4, 22, rfl, by decide, BG_t (List.mem_of_getElem? (i := 536) (by decide +kernel)) (by decide +kernel), rfl, uw_X4⟩
theorem fp_X4_50 : FP RX4 50 4 17 (.array .int) true := ⟨RX4, TX4, 22, tyX4, rfl, by decide, BG_t (List.mem_of_getElem? (i := 536) (by decide +kernel)) (by decide +kernel), rfl, uw_X4, tyX4_ok, nmX4, rfl, by decide +kernel⟩
theorem fl_X4_89 : FL RX4 89 4 18 := ⟨RX4, TX4, 22, rfl, by decide, BG_t (List.mem_of_getElem? (i := 537) (by decide +kernel)) (by decide +kernel), rfl, uw_X4⟩
theorem fp_X4_89 : FP RX4 89 4 18 .int false := ⟨RX4, TX4, 22, tyX4, rfl, by decide, BG_t (List.mem_of_getElem? (i := 537) (by decide +kernel)) (by decide +kernel), rfl, uw_X4, tyX4_ok, nmX4, rfl, by decide +kernel⟩
theorem fl_X4_53 : FL RX4 53 4 19 := ⟨RX4, TX4, 22, rfl, by decide, BG_t (List.mem_of_getElem? (i := 538) (by decide +kernel)) (by decide +kernel), rfl, uw_X4⟩
theorem fp_X4_53 : FP RX4 53 4 19 (.array .int) true := ⟨RX4, TX4, 22, tyX4, rfl, by decide, BG_t (List.mem_of_getElem? (i := 538) (by decide +kernel)) (by decide +kernel), rfl, uw_X4, tyX4_ok, nmX4, rfl, by decide +kernel⟩
theorem fl_X4_56 : FL RX4 56 4 20 := ⟨RX4, TX4, 22, rfl, by decide, BG_t (List.mem_of_getElem? (i := 539) (by decide +kernel)) (by decide +kernel), rfl, uw_X4⟩
theorem fp_X4_56 : FP RX4 56 4 20 (.array .int) true := ⟨RX4, TX4, 22, tyX4, rfl, by decide, BG_t (List.mem_of_getElem? (i := 539) (by decide +kernel)) (by decide +kernel), rfl, uw_X4, tyX4_ok, nmX4, rfl, by decide +kernel⟩
theorem fl_X4_59 : FL RX4 59 4 21 := ⟨RX4, TX4, 22, rfl, by decide, BG_t (List.mem_of_getElem? (i := 540) (by decide +kernel)) (by decide +kernel), rfl, uw_X4⟩
theorem fp_X4_59 : FP RX4 59 4 21 (.array .boolean) true := ⟨RX4, TX4, 22, tyX4, rfl, by decide, BG_t (List.mem_of_getElem? (i := 540) (by decide +kernel)) (by decide +kernel), rfl, uw_X4, tyX4_ok, nmX4, rfl, by decide +kernel⟩
theorem sv_L_92 : SV RL RX4 92 yX4_thrown cX4_thrown 1 (some .int) 0 := ⟨BG_t (List.mem_of_getElem? (i := 588) (by decide +kernel)) (by decide +kernel), BG_t (List.mem_of_getElem? (i := 589) (by decide +kernel)) (by decide +kernel), BG_t (List.mem_of_getElem? (i := 590) (by decide +kernel)) (by decide +kernel), BG_t (List.mem_of_getElem? (i := 2) (by decide +kernel)) (by decide +kernel), BG_t (List.mem_of_getElem? (i := 591) (by decide +kernel)) (by decide +kernel), by decide +kernel, by decide +kernel⟩
theorem sv_L_91 : SV RL RX4 91 yX4_tell cX4_tell 7 (some .int) 4 := ⟨BG_t (List.mem_of_getElem? (i := 592) (by decide +kernel)) (by decide +kernel), BG_t (List.mem_of_getElem? (i := 593) (by decide +kernel)) (by decide +kernel), BG_t (List.mem_of_getElem? (i := 594) (by decide +kernel)) (by decide +kernel), BG_t (List.mem_of_getElem? (i := 2) (by decide +kernel)) (by decide +kernel), BG_t (List.mem_of_getElem? (i := 595) (by decide +kernel)) (by decide +kernel), by decide +kernel, by decide +kernel⟩
theorem sv_X4_69 : SV RX4 RX4 69 yX4_isInstrument cX4_isInstrument 2 (some .boolean) 1 := ⟨BG_t (List.mem_of_getElem? (i := 596) (by decide +kernel)) (by decide +kernel), BG_t (List.mem_of_getElem? (i := 598) (by decide +kernel)) (by decide +kernel), BG_in (List.mem_append_left _ (List.mem_of_getElem? (i := 11) (by decide +kernel))) (by decide +kernel), BG_t (List.mem_of_getElem? (i := 2) (by decide +kernel)) (by decide +kernel), BG_t (List.mem_of_getElem? (i := 599) (by decide +kernel)) (by decide +kernel), by decide +kernel, by decide +kernel⟩
theorem sv_X4_73 : SV RX4 RX4 73 yX4_holds cX4_holds 2 (some .boolean) 1 := ⟨BG_t (List.mem_of_getElem? (i := 600) (by decide +kernel)) (by decide +kernel), BG_t (List.mem_of_getElem? (i := 602) (by decide +kernel)) (by decide +kernel), BG_in (List.mem_append_left _ (List.mem_of_getElem? (i := 12) (by decide +kernel))) (by decide +kernel), BG_t (List.mem_of_getElem? (i := 2) (by decide +kernel)) (by decide +kernel), BG_t (List.mem_of_getElem? (i := 603) (by decide +kernel)) (by decide +kernel), by decide +kernel, by decide +kernel⟩
theorem sv_L_99 : SV RL RX4 99 yX4_refer cX4_refer 5 (some .int) 2 := ⟨BG_t (List.mem_of_getElem? (i := 604) (by decide +kernel)) (by decide +kernel), BG_t (List.mem_of_getElem? (i := 605) (by decide +kernel)) (by decide +kernel), BG_t (List.mem_of_getElem? (i := 606) (by decide +kernel)) (by decide +kernel), BG_t (List.mem_of_getElem? (i := 2) (by decide +kernel)) (by decide +kernel), BG_t (List.mem_of_getElem? (i := 607) (by decide +kernel)) (by decide +kernel), by decide +kernel, by decide +kernel⟩
theorem sv_X4_76 : SV RX4 RX4 76 yX4_isInChain cX4_isInChain 4 (some .boolean) 2 := ⟨BG_t (List.mem_of_getElem? (i := 608) (by decide +kernel)) (by decide +kernel), BG_t (List.mem_of_getElem? (i := 610) (by decide +kernel)) (by decide +kernel), BG_in (List.mem_append_left _ (List.mem_of_getElem? (i := 13) (by decide +kernel))) (by decide +kernel), BG_t (List.mem_of_getElem? (i := 2) (by decide +kernel)) (by decide +kernel), BG_t (List.mem_of_getElem? (i := 611) (by decide +kernel)) (by decide +kernel), by decide +kernel, by decide +kernel⟩
theorem sv_L_103 : SV RL RX4 103 yX4_pass cX4_pass 2 (some .int) 1 := ⟨BG_t (List.mem_of_getElem? (i := 612) (by decide +kernel)) (by decide +kernel), BG_t (List.mem_of_getElem? (i := 613) (by decide +kernel)) (by decide +kernel), BG_t (List.mem_of_getElem? (i := 614) (by decide +kernel)) (by decide +kernel), BG_t (List.mem_of_getElem? (i := 2) (by decide +kernel)) (by decide +kernel), BG_t (List.mem_of_getElem? (i := 615) (by decide +kernel)) (by decide +kernel), by decide +kernel, by decide +kernel⟩
theorem sv_L_107 : SV RL RX4 107 yX4_today cX4_today 1 (some .int) 0 := ⟨BG_t (List.mem_of_getElem? (i := 616) (by decide +kernel)) (by decide +kernel), BG_t (List.mem_of_getElem? (i := 617) (by decide +kernel)) (by decide +kernel), BG_t (List.mem_of_getElem? (i := 618) (by decide +kernel)) (by decide +kernel), BG_t (List.mem_of_getElem? (i := 2) (by decide +kernel)) (by decide +kernel), BG_t (List.mem_of_getElem? (i := 619) (by decide +kernel)) (by decide +kernel), by decide +kernel, by decide +kernel⟩
theorem sv_L_111 : SV RL RX4 111 yX4_instruments cX4_instruments 1 (some .int) 0 := ⟨BG_t (List.mem_of_getElem? (i := 620) (by decide +kernel)) (by decide +kernel), BG_t (List.mem_of_getElem? (i := 621) (by decide +kernel)) (by decide +kernel), BG_t (List.mem_of_getElem? (i := 622) (by decide +kernel)) (by decide +kernel), BG_t (List.mem_of_getElem? (i := 2) (by decide +kernel)) (by decide +kernel), BG_t (List.mem_of_getElem? (i := 623) (by decide +kernel)) (by decide +kernel), by decide +kernel, by decide +kernel⟩
theorem sv_L_115 : SV RL RX4 115 yX4_calibrate cX4_calibrate 9 (some .int) 3 := ⟨BG_t (List.mem_of_getElem? (i := 624) (by decide +kernel)) (by decide +kernel), BG_t (List.mem_of_getElem? (i := 625) (by decide +kernel)) (by decide +kernel), BG_t (List.mem_of_getElem? (i := 626) (by decide +kernel)) (by decide +kernel), BG_t (List.mem_of_getElem? (i := 2) (by decide +kernel)) (by decide +kernel), BG_t (List.mem_of_getElem? (i := 627) (by decide +kernel)) (by decide +kernel), by decide +kernel, by decide +kernel⟩
theorem ss_X4_102 : SS RX4 102 yX4_isError cX4_isError 1 (some .boolean) 1 := ⟨BG_t (List.mem_of_getElem? (i := 628) (by decide +kernel)) (by decide +kernel), BG_t (List.mem_of_getElem? (i := 629) (by decide +kernel)) (by decide +kernel), BG_t (List.mem_of_getElem? (i := 2) (by decide +kernel)) (by decide +kernel), BG_t (List.mem_of_getElem? (i := 630) (by decide +kernel)) (by decide +kernel), by decide +kernel, by decide +kernel⟩
theorem sv_X4_105 : SV RX4 RX4 105 yX4_firstDistrusted cX4_firstDistrusted 3 (some .int) 1 := ⟨BG_t (List.mem_of_getElem? (i := 633) (by decide +kernel)) (by decide +kernel), BG_t (List.mem_of_getElem? (i := 635) (by decide +kernel)) (by decide +kernel), BG_in (List.mem_append_left _ (List.mem_of_getElem? (i := 14) (by decide +kernel))) (by decide +kernel), BG_t (List.mem_of_getElem? (i := 2) (by decide +kernel)) (by decide +kernel), BG_t (List.mem_of_getElem? (i := 636) (by decide +kernel)) (by decide +kernel), by decide +kernel, by decide +kernel⟩
theorem sv_X4_86 : SV RX4 RX4 86 yX4_isInForce cX4_isInForce 2 (some .boolean) 1 := ⟨BG_t (List.mem_of_getElem? (i := 637) (by decide +kernel)) (by decide +kernel), BG_t (List.mem_of_getElem? (i := 639) (by decide +kernel)) (by decide +kernel), BG_in (List.mem_append_left _ (List.mem_of_getElem? (i := 15) (by decide +kernel))) (by decide +kernel), BG_t (List.mem_of_getElem? (i := 2) (by decide +kernel)) (by decide +kernel), BG_t (List.mem_of_getElem? (i := 640) (by decide +kernel)) (by decide +kernel), by decide +kernel, by decide +kernel⟩
theorem sv_X4_83 : SV RX4 RX4 83 yX4_isCalibrated cX4_isCalibrated 2 (some .boolean) 1 := ⟨BG_t (List.mem_of_getElem? (i := 641) (by decide +kernel)) (by decide +kernel), BG_t (List.mem_of_getElem? (i := 643) (by decide +kernel)) (by decide +kernel), BG_in (List.mem_append_left _ (List.mem_of_getElem? (i := 16) (by decide +kernel))) (by decide +kernel), BG_t (List.mem_of_getElem? (i := 2) (by decide +kernel)) (by decide +kernel), BG_t (List.mem_of_getElem? (i := 644) (by decide +kernel)) (by decide +kernel), by decide +kernel, by decide +kernel⟩
theorem ss_X4_108 : SS RX4 108 yX4_unsigned cX4_unsigned 1 (some .int) 1 := ⟨BG_t (List.mem_of_getElem? (i := 645) (by decide +kernel)) (by decide +kernel), BG_t (List.mem_of_getElem? (i := 646) (by decide +kernel)) (by decide +kernel), BG_t (List.mem_of_getElem? (i := 2) (by decide +kernel)) (by decide +kernel), BG_t (List.mem_of_getElem? (i := 647) (by decide +kernel)) (by decide +kernel), by decide +kernel, by decide +kernel⟩
theorem sv_X4_111 : SV RX4 RX4 111 yX4_fails cX4_fails 4 (some .int) 1 := ⟨BG_t (List.mem_of_getElem? (i := 648) (by decide +kernel)) (by decide +kernel), BG_t (List.mem_of_getElem? (i := 650) (by decide +kernel)) (by decide +kernel), BG_in (List.mem_append_left _ (List.mem_of_getElem? (i := 17) (by decide +kernel))) (by decide +kernel), BG_t (List.mem_of_getElem? (i := 2) (by decide +kernel)) (by decide +kernel), BG_t (List.mem_of_getElem? (i := 651) (by decide +kernel)) (by decide +kernel), by decide +kernel, by decide +kernel⟩
theorem sv_X4_92 : SV RX4 RX4 92 yX4_reached cX4_reached 7 (some .int) 1 := ⟨BG_t (List.mem_of_getElem? (i := 652) (by decide +kernel)) (by decide +kernel), BG_t (List.mem_of_getElem? (i := 654) (by decide +kernel)) (by decide +kernel), BG_in (List.mem_append_left _ (List.mem_of_getElem? (i := 18) (by decide +kernel))) (by decide +kernel), BG_t (List.mem_of_getElem? (i := 2) (by decide +kernel)) (by decide +kernel), BG_t (List.mem_of_getElem? (i := 655) (by decide +kernel)) (by decide +kernel), by decide +kernel, by decide +kernel⟩
theorem sv_X4_96 : SV RX4 RX4 96 yX4_recalls cX4_recalls 6 (some .int) 2 := ⟨BG_t (List.mem_of_getElem? (i := 656) (by decide +kernel)) (by decide +kernel), BG_t (List.mem_of_getElem? (i := 658) (by decide +kernel)) (by decide +kernel), BG_in (List.mem_append_left _ (List.mem_of_getElem? (i := 19) (by decide +kernel))) (by decide +kernel), BG_t (List.mem_of_getElem? (i := 2) (by decide +kernel)) (by decide +kernel), BG_t (List.mem_of_getElem? (i := 659) (by decide +kernel)) (by decide +kernel), by decide +kernel, by decide +kernel⟩
theorem sv_X4_114 : SV RX4 RX4 114 yX4_laysPoint cX4_laysPoint 6 none 3 := ⟨BG_t (List.mem_of_getElem? (i := 660) (by decide +kernel)) (by decide +kernel), BG_t (List.mem_of_getElem? (i := 662) (by decide +kernel)) (by decide +kernel), BG_in (List.mem_append_left _ (List.mem_of_getElem? (i := 20) (by decide +kernel))) (by decide +kernel), BG_t (List.mem_of_getElem? (i := 2) (by decide +kernel)) (by decide +kernel), BG_t (List.mem_of_getElem? (i := 663) (by decide +kernel)) (by decide +kernel), by decide +kernel, by decide +kernel⟩
theorem sv_L_118 : SV RL RX4 118 yX4_measure cX4_measure 3 (some .int) 1 := ⟨BG_t (List.mem_of_getElem? (i := 664) (by decide +kernel)) (by decide +kernel), BG_t (List.mem_of_getElem? (i := 665) (by decide +kernel)) (by decide +kernel), BG_t (List.mem_of_getElem? (i := 666) (by decide +kernel)) (by decide +kernel), BG_t (List.mem_of_getElem? (i := 2) (by decide +kernel)) (by decide +kernel), BG_t (List.mem_of_getElem? (i := 667) (by decide +kernel)) (by decide +kernel), by decide +kernel, by decide +kernel⟩
theorem sv_L_121 : SV RL RX4 121 yX4_intervalOf cX4_intervalOf 2 (some .int) 1 := ⟨BG_t (List.mem_of_getElem? (i := 668) (by decide +kernel)) (by decide +kernel), BG_t (List.mem_of_getElem? (i := 669) (by decide +kernel)) (by decide +kernel), BG_t (List.mem_of_getElem? (i := 670) (by decide +kernel)) (by decide +kernel), BG_t (List.mem_of_getElem? (i := 2) (by decide +kernel)) (by decide +kernel), BG_t (List.mem_of_getElem? (i := 671) (by decide +kernel)) (by decide +kernel), by decide +kernel, by decide +kernel⟩
theorem sv_X4_121 : SV RX4 RX4 121 yX4_isAsked cX4_isAsked 2 (some .boolean) 1 := ⟨BG_t (List.mem_of_getElem? (i := 672) (by decide +kernel)) (by decide +kernel), BG_t (List.mem_of_getElem? (i := 674) (by decide +kernel)) (by decide +kernel), BG_in (List.mem_append_left _ (List.mem_of_getElem? (i := 21) (by decide +kernel))) (by decide +kernel), BG_t (List.mem_of_getElem? (i := 2) (by decide +kernel)) (by decide +kernel), BG_t (List.mem_of_getElem? (i := 675) (by decide +kernel)) (by decide +kernel), by decide +kernel, by decide +kernel⟩
theorem sv_L_124 : SV RL RX4 124 yX4_dueOf cX4_dueOf 2 (some .int) 1 := ⟨BG_t (List.mem_of_getElem? (i := 676) (by decide +kernel)) (by decide +kernel), BG_t (List.mem_of_getElem? (i := 677) (by decide +kernel)) (by decide +kernel), BG_t (List.mem_of_getElem? (i := 678) (by decide +kernel)) (by decide +kernel), BG_t (List.mem_of_getElem? (i := 2) (by decide +kernel)) (by decide +kernel), BG_t (List.mem_of_getElem? (i := 679) (by decide +kernel)) (by decide +kernel), by decide +kernel, by decide +kernel⟩
theorem sv_L_127 : SV RL RX4 127 yX4_isSuspect cX4_isSuspect 2 (some .boolean) 1 := ⟨BG_t (List.mem_of_getElem? (i := 680) (by decide +kernel)) (by decide +kernel), BG_t (List.mem_of_getElem? (i := 681) (by decide +kernel)) (by decide +kernel), BG_t (List.mem_of_getElem? (i := 682) (by decide +kernel)) (by decide +kernel), BG_t (List.mem_of_getElem? (i := 2) (by decide +kernel)) (by decide +kernel), BG_t (List.mem_of_getElem? (i := 683) (by decide +kernel)) (by decide +kernel), by decide +kernel, by decide +kernel⟩
theorem sv_L_130 : SV RL RX4 130 yX4_distrusted cX4_distrusted 2 (some .int) 1 := ⟨BG_t (List.mem_of_getElem? (i := 684) (by decide +kernel)) (by decide +kernel), BG_t (List.mem_of_getElem? (i := 685) (by decide +kernel)) (by decide +kernel), BG_t (List.mem_of_getElem? (i := 686) (by decide +kernel)) (by decide +kernel), BG_t (List.mem_of_getElem? (i := 2) (by decide +kernel)) (by decide +kernel), BG_t (List.mem_of_getElem? (i := 687) (by decide +kernel)) (by decide +kernel), by decide +kernel, by decide +kernel⟩
theorem sv_L_133 : SV RL RX4 133 yX4_chain cX4_chain 4 (some .int) 1 := ⟨BG_t (List.mem_of_getElem? (i := 688) (by decide +kernel)) (by decide +kernel), BG_t (List.mem_of_getElem? (i := 689) (by decide +kernel)) (by decide +kernel), BG_t (List.mem_of_getElem? (i := 690) (by decide +kernel)) (by decide +kernel), BG_t (List.mem_of_getElem? (i := 2) (by decide +kernel)) (by decide +kernel), BG_t (List.mem_of_getElem? (i := 691) (by decide +kernel)) (by decide +kernel), by decide +kernel, by decide +kernel⟩
theorem sv_L_136 : SV RL RX4 136 yX4_failures cX4_failures 2 (some .int) 1 := ⟨BG_t (List.mem_of_getElem? (i := 692) (by decide +kernel)) (by decide +kernel), BG_t (List.mem_of_getElem? (i := 693) (by decide +kernel)) (by decide +kernel), BG_t (List.mem_of_getElem? (i := 694) (by decide +kernel)) (by decide +kernel), BG_t (List.mem_of_getElem? (i := 2) (by decide +kernel)) (by decide +kernel), BG_t (List.mem_of_getElem? (i := 695) (by decide +kernel)) (by decide +kernel), by decide +kernel, by decide +kernel⟩
theorem sv_L_140 : SV RL RX4 140 yX4_slope cX4_slope 2 (some .double) 1 := ⟨BG_t (List.mem_of_getElem? (i := 696) (by decide +kernel)) (by decide +kernel), BG_t (List.mem_of_getElem? (i := 697) (by decide +kernel)) (by decide +kernel), BG_t (List.mem_of_getElem? (i := 698) (by decide +kernel)) (by decide +kernel), BG_t (List.mem_of_getElem? (i := 2) (by decide +kernel)) (by decide +kernel), BG_t (List.mem_of_getElem? (i := 699) (by decide +kernel)) (by decide +kernel), by decide +kernel, by decide +kernel⟩
theorem sv_X4_124 : SV RX4 RX4 124 yX4_products cX4_products 5 (some .long) 1 := ⟨BG_t (List.mem_of_getElem? (i := 700) (by decide +kernel)) (by decide +kernel), BG_t (List.mem_of_getElem? (i := 702) (by decide +kernel)) (by decide +kernel), BG_in (List.mem_append_left _ (List.mem_of_getElem? (i := 22) (by decide +kernel))) (by decide +kernel), BG_t (List.mem_of_getElem? (i := 2) (by decide +kernel)) (by decide +kernel), BG_t (List.mem_of_getElem? (i := 703) (by decide +kernel)) (by decide +kernel), by decide +kernel, by decide +kernel⟩
theorem sv_X4_128 : SV RX4 RX4 128 yX4_squares cX4_squares 5 (some .long) 1 := ⟨BG_t (List.mem_of_getElem? (i := 704) (by decide +kernel)) (by decide +kernel), BG_t (List.mem_of_getElem? (i := 706) (by decide +kernel)) (by decide +kernel), BG_in (List.mem_append_left _ (List.mem_of_getElem? (i := 23) (by decide +kernel))) (by decide +kernel), BG_t (List.mem_of_getElem? (i := 2) (by decide +kernel)) (by decide +kernel), BG_t (List.mem_of_getElem? (i := 707) (by decide +kernel)) (by decide +kernel), by decide +kernel, by decide +kernel⟩
theorem sv_L_143 : SV RL RX4 143 yX4_expected cX4_expected 4 (some .long) 2 := ⟨BG_t (List.mem_of_getElem? (i := 708) (by decide +kernel)) (by decide +kernel), BG_t (List.mem_of_getElem? (i := 709) (by decide +kernel)) (by decide +kernel), BG_t (List.mem_of_getElem? (i := 710) (by decide +kernel)) (by decide +kernel), BG_t (List.mem_of_getElem? (i := 2) (by decide +kernel)) (by decide +kernel), BG_t (List.mem_of_getElem? (i := 711) (by decide +kernel)) (by decide +kernel), by decide +kernel, by decide +kernel⟩
theorem sv_X4_131 : SV RX4 RX4 131 yX4_errorAt cX4_errorAt 9 (some .long) 2 := ⟨BG_t (List.mem_of_getElem? (i := 712) (by decide +kernel)) (by decide +kernel), BG_t (List.mem_of_getElem? (i := 714) (by decide +kernel)) (by decide +kernel), BG_in (List.mem_append_left _ (List.mem_of_getElem? (i := 24) (by decide +kernel))) (by decide +kernel), BG_t (List.mem_of_getElem? (i := 2) (by decide +kernel)) (by decide +kernel), BG_t (List.mem_of_getElem? (i := 715) (by decide +kernel)) (by decide +kernel), by decide +kernel, by decide +kernel⟩
theorem sv_L_146 : SV RL RX4 146 yX4_driftsOut cX4_driftsOut 5 (some .int) 1 := ⟨BG_t (List.mem_of_getElem? (i := 716) (by decide +kernel)) (by decide +kernel), BG_t (List.mem_of_getElem? (i := 717) (by decide +kernel)) (by decide +kernel), BG_t (List.mem_of_getElem? (i := 718) (by decide +kernel)) (by decide +kernel), BG_t (List.mem_of_getElem? (i := 2) (by decide +kernel)) (by decide +kernel), BG_t (List.mem_of_getElem? (i := 719) (by decide +kernel)) (by decide +kernel), by decide +kernel, by decide +kernel⟩
theorem sv_L_149 : SV RL RX4 149 yX4_uncertainty cX4_uncertainty 2 (some .int) 1 := ⟨BG_t (List.mem_of_getElem? (i := 720) (by decide +kernel)) (by decide +kernel), BG_t (List.mem_of_getElem? (i := 721) (by decide +kernel)) (by decide +kernel), BG_t (List.mem_of_getElem? (i := 722) (by decide +kernel)) (by decide +kernel), BG_t (List.mem_of_getElem? (i := 2) (by decide +kernel)) (by decide +kernel), BG_t (List.mem_of_getElem? (i := 723) (by decide +kernel)) (by decide +kernel), by decide +kernel, by decide +kernel⟩
theorem sv_X4_138 : SV RX4 RX4 138 yX4_withChain cX4_withChain 7 (some .int) 1 := ⟨BG_t (List.mem_of_getElem? (i := 724) (by decide +kernel)) (by decide +kernel), BG_t (List.mem_of_getElem? (i := 726) (by decide +kernel)) (by decide +kernel), BG_in (List.mem_append_left _ (List.mem_of_getElem? (i := 25) (by decide +kernel))) (by decide +kernel), BG_t (List.mem_of_getElem? (i := 2) (by decide +kernel)) (by decide +kernel), BG_t (List.mem_of_getElem? (i := 727) (by decide +kernel)) (by decide +kernel), by decide +kernel, by decide +kernel⟩
theorem ss_X4_135 : SS RX4 135 yX4_root cX4_root 2 (some .int) 1 := ⟨BG_t (List.mem_of_getElem? (i := 728) (by decide +kernel)) (by decide +kernel), BG_t (List.mem_of_getElem? (i := 729) (by decide +kernel)) (by decide +kernel), BG_t (List.mem_of_getElem? (i := 2) (by decide +kernel)) (by decide +kernel), BG_t (List.mem_of_getElem? (i := 730) (by decide +kernel)) (by decide +kernel), by decide +kernel, by decide +kernel⟩
theorem sv_L_152 : SV RL RX4 152 yX4_limit cX4_limit 3 (some .int) 1 := ⟨BG_t (List.mem_of_getElem? (i := 731) (by decide +kernel)) (by decide +kernel), BG_t (List.mem_of_getElem? (i := 732) (by decide +kernel)) (by decide +kernel), BG_t (List.mem_of_getElem? (i := 733) (by decide +kernel)) (by decide +kernel), BG_t (List.mem_of_getElem? (i := 2) (by decide +kernel)) (by decide +kernel), BG_t (List.mem_of_getElem? (i := 734) (by decide +kernel)) (by decide +kernel), by decide +kernel, by decide +kernel⟩
theorem sv_L_156 : SV RL RX4 156 yX4_measurements cX4_measurements 1 (some .int) 0 := ⟨BG_t (List.mem_of_getElem? (i := 735) (by decide +kernel)) (by decide +kernel), BG_t (List.mem_of_getElem? (i := 736) (by decide +kernel)) (by decide +kernel), BG_t (List.mem_of_getElem? (i := 737) (by decide +kernel)) (by decide +kernel), BG_t (List.mem_of_getElem? (i := 2) (by decide +kernel)) (by decide +kernel), BG_t (List.mem_of_getElem? (i := 738) (by decide +kernel)) (by decide +kernel), by decide +kernel, by decide +kernel⟩
theorem sv_L_159 : SV RL RX4 159 yX4_isCalledBack cX4_isCalledBack 2 (some .boolean) 1 := ⟨BG_t (List.mem_of_getElem? (i := 739) (by decide +kernel)) (by decide +kernel), BG_t (List.mem_of_getElem? (i := 740) (by decide +kernel)) (by decide +kernel), BG_t (List.mem_of_getElem? (i := 741) (by decide +kernel)) (by decide +kernel), BG_t (List.mem_of_getElem? (i := 2) (by decide +kernel)) (by decide +kernel), BG_t (List.mem_of_getElem? (i := 742) (by decide +kernel)) (by decide +kernel), by decide +kernel, by decide +kernel⟩
theorem sv_L_163 : SV RL RX4 163 yX4_calledBack cX4_calledBack 1 (some .int) 0 := ⟨BG_t (List.mem_of_getElem? (i := 743) (by decide +kernel)) (by decide +kernel), BG_t (List.mem_of_getElem? (i := 744) (by decide +kernel)) (by decide +kernel), BG_t (List.mem_of_getElem? (i := 745) (by decide +kernel)) (by decide +kernel), BG_t (List.mem_of_getElem? (i := 2) (by decide +kernel)) (by decide +kernel), BG_t (List.mem_of_getElem? (i := 746) (by decide +kernel)) (by decide +kernel), by decide +kernel, by decide +kernel⟩
theorem sv_X4_141 : SV RX4 RX4 141 yX4_calledNow cX4_calledNow 3 (some .int) 0 := ⟨BG_t (List.mem_of_getElem? (i := 747) (by decide +kernel)) (by decide +kernel), BG_t (List.mem_of_getElem? (i := 749) (by decide +kernel)) (by decide +kernel), BG_in (List.mem_append_left _ (List.mem_of_getElem? (i := 26) (by decide +kernel))) (by decide +kernel), BG_t (List.mem_of_getElem? (i := 2) (by decide +kernel)) (by decide +kernel), BG_t (List.mem_of_getElem? (i := 750) (by decide +kernel)) (by decide +kernel), by decide +kernel, by decide +kernel⟩
theorem sv_L_167 : SV RL RX4 167 yX4_calledBackByLog cX4_calledBackByLog 1 (some .int) 0 := ⟨BG_t (List.mem_of_getElem? (i := 751) (by decide +kernel)) (by decide +kernel), BG_t (List.mem_of_getElem? (i := 752) (by decide +kernel)) (by decide +kernel), BG_t (List.mem_of_getElem? (i := 753) (by decide +kernel)) (by decide +kernel), BG_t (List.mem_of_getElem? (i := 2) (by decide +kernel)) (by decide +kernel), BG_t (List.mem_of_getElem? (i := 754) (by decide +kernel)) (by decide +kernel), by decide +kernel, by decide +kernel⟩
theorem sv_L_170 : SV RL RX4 170 yX4_atStake cX4_atStake 2 (some .int) 1 := ⟨BG_t (List.mem_of_getElem? (i := 755) (by decide +kernel)) (by decide +kernel), BG_t (List.mem_of_getElem? (i := 756) (by decide +kernel)) (by decide +kernel), BG_t (List.mem_of_getElem? (i := 757) (by decide +kernel)) (by decide +kernel), BG_t (List.mem_of_getElem? (i := 2) (by decide +kernel)) (by decide +kernel), BG_t (List.mem_of_getElem? (i := 758) (by decide +kernel)) (by decide +kernel), by decide +kernel, by decide +kernel⟩
theorem sv_L_173 : SV RL RX4 173 yX4_benchDay cX4_benchDay 4 (some .int) 2 := ⟨BG_t (List.mem_of_getElem? (i := 759) (by decide +kernel)) (by decide +kernel), BG_t (List.mem_of_getElem? (i := 760) (by decide +kernel)) (by decide +kernel), BG_t (List.mem_of_getElem? (i := 761) (by decide +kernel)) (by decide +kernel), BG_t (List.mem_of_getElem? (i := 2) (by decide +kernel)) (by decide +kernel), BG_t (List.mem_of_getElem? (i := 762) (by decide +kernel)) (by decide +kernel), by decide +kernel, by decide +kernel⟩
theorem ss_X4_145 : SS RX4 145 yX4_isEach cX4_isEach 1 (some .boolean) 1 := ⟨BG_t (List.mem_of_getElem? (i := 763) (by decide +kernel)) (by decide +kernel), BG_t (List.mem_of_getElem? (i := 764) (by decide +kernel)) (by decide +kernel), BG_t (List.mem_of_getElem? (i := 2) (by decide +kernel)) (by decide +kernel), BG_t (List.mem_of_getElem? (i := 765) (by decide +kernel)) (by decide +kernel), by decide +kernel, by decide +kernel⟩
theorem sv_X4_148 : SV RX4 RX4 148 yX4_dayOnBench cX4_dayOnBench 6 (some .int) 2 := ⟨BG_t (List.mem_of_getElem? (i := 766) (by decide +kernel)) (by decide +kernel), BG_t (List.mem_of_getElem? (i := 768) (by decide +kernel)) (by decide +kernel), BG_in (List.mem_append_left _ (List.mem_of_getElem? (i := 27) (by decide +kernel))) (by decide +kernel), BG_t (List.mem_of_getElem? (i := 2) (by decide +kernel)) (by decide +kernel), BG_t (List.mem_of_getElem? (i := 769) (by decide +kernel)) (by decide +kernel), by decide +kernel, by decide +kernel⟩
theorem sv_L_176 : SV RL RX4 176 yX4_late cX4_late 4 (some .int) 1 := ⟨BG_t (List.mem_of_getElem? (i := 770) (by decide +kernel)) (by decide +kernel), BG_t (List.mem_of_getElem? (i := 771) (by decide +kernel)) (by decide +kernel), BG_t (List.mem_of_getElem? (i := 772) (by decide +kernel)) (by decide +kernel), BG_t (List.mem_of_getElem? (i := 2) (by decide +kernel)) (by decide +kernel), BG_t (List.mem_of_getElem? (i := 773) (by decide +kernel)) (by decide +kernel), by decide +kernel, by decide +kernel⟩
theorem cl_L_8 : Cond.classLink RL 8 RX3 ∈ BG := BG_t (List.mem_of_getElem? (i := 13) (by decide +kernel)) (by decide +kernel)
theorem nw_L_8 : NW RL 8 3 9 [.null, .null, .null, .int 0, .int 0, .int 0, .int 0, .int 0, .int 0] := ⟨RX3, TX3, tyX3, rfl, uw_X3, tyX3_ok, cl_L_8, BG_t (List.mem_of_getElem? (i := 14) (by decide +kernel)) (by decide +kernel), BG_t (List.mem_of_getElem? (i := 1) (by decide +kernel)) (by decide +kernel), by decide +kernel⟩
theorem cl_X3_9 : Cond.classLink RX3 9 RX1 ∈ BG := BG_t (List.mem_of_getElem? (i := 21) (by decide +kernel)) (by decide +kernel)
theorem nw_X3_9 : NW RX3 9 1 9 [.int 0, .int 0, .int 0, .int 0, .null, .null, .int 0, .long 0, .long 0] := ⟨RX1, TX1, tyX1, rfl, uw_X1, tyX1_ok, cl_X3_9, BG_t (List.mem_of_getElem? (i := 200) (by decide +kernel)) (by decide +kernel), BG_t (List.mem_of_getElem? (i := 9) (by decide +kernel)) (by decide +kernel), by decide +kernel⟩
theorem cl_X3_15 : Cond.classLink RX3 15 RX2 ∈ BG := BG_t (List.mem_of_getElem? (i := 23) (by decide +kernel)) (by decide +kernel)
theorem nw_X3_15 : NW RX3 15 2 3 [.int 0, .null, .int 0] := ⟨RX2, TX2, tyX2, rfl, uw_X2, tyX2_ok, cl_X3_15, BG_t (List.mem_of_getElem? (i := 362) (by decide +kernel)) (by decide +kernel), BG_t (List.mem_of_getElem? (i := 12) (by decide +kernel)) (by decide +kernel), by decide +kernel⟩
theorem cl_X3_21 : Cond.classLink RX3 21 RX0 ∈ BG := BG_t (List.mem_of_getElem? (i := 25) (by decide +kernel)) (by decide +kernel)
theorem nw_X3_21 : NW RX3 21 0 10 [.int 0, .int 0, .int 0, .null, .null, .int 0, .int 0, .int 0, .int 0, .int 0] := ⟨RX0, TX0, tyX0, rfl, uw_X0, tyX0_ok, cl_X3_21, BG_t (List.mem_of_getElem? (i := 284) (by decide +kernel)) (by decide +kernel), BG_t (List.mem_of_getElem? (i := 10) (by decide +kernel)) (by decide +kernel), by decide +kernel⟩
theorem cl_L_13 : Cond.classLink RL 13 "java/lang/IndexOutOfBoundsException" ∈ BG := BG_t (List.mem_of_getElem? (i := 85) (by decide +kernel)) (by decide +kernel)
theorem cl_L_15 : Cond.classLink RL 15 "java/lang/IllegalArgumentException" ∈ BG := BG_t (List.mem_of_getElem? (i := 86) (by decide +kernel)) (by decide +kernel)
theorem cl_L_17 : Cond.classLink RL 17 "java/lang/IllegalStateException" ∈ BG := BG_t (List.mem_of_getElem? (i := 87) (by decide +kernel)) (by decide +kernel)
theorem cl_X3_72 : Cond.classLink RX3 72 "java/lang/IndexOutOfBoundsException" ∈ BG := BG_t (List.mem_of_getElem? (i := 100) (by decide +kernel)) (by decide +kernel)
theorem cl_X3_31 : Cond.classLink RX3 31 "java/lang/IllegalArgumentException" ∈ BG := BG_t (List.mem_of_getElem? (i := 168) (by decide +kernel)) (by decide +kernel)
theorem cl_X3_42 : Cond.classLink RX3 42 "java/lang/IllegalStateException" ∈ BG := BG_t (List.mem_of_getElem? (i := 184) (by decide +kernel)) (by decide +kernel)
theorem cl_L_83 : Cond.classLink RL 83 RX4 ∈ BG := BG_t (List.mem_of_getElem? (i := 513) (by decide +kernel)) (by decide +kernel)
theorem nw_L_83 : NW RL 83 4 22 [.int 0, .int 0, .int 0, .int 0, .null, .null, .null, .null, .null, .null, .null, .null, .null, .null, .null, .null, .null, .null, .int 0, .null, .null, .null] := ⟨RX4, TX4, tyX4, rfl, uw_X4, tyX4_ok, cl_L_83, BG_t (List.mem_of_getElem? (i := 514) (by decide +kernel)) (by decide +kernel), BG_t (List.mem_of_getElem? (i := 2) (by decide +kernel)) (by decide +kernel), by decide +kernel⟩
theorem ko_X3_121 : Cond.constant RX3 121 (-99999 : Int32) ∈ BG := BG_t (List.mem_of_getElem? (i := 269) (by decide +kernel)) (by decide +kernel)
theorem ko_X3_122 : Cond.constant RX3 122 (99999 : Int32) ∈ BG := BG_t (List.mem_of_getElem? (i := 270) (by decide +kernel)) (by decide +kernel)
theorem ko_X0_28 : Cond.constant RX0 28 (1000000 : Int32) ∈ BG := BG_t (List.mem_of_getElem? (i := 289) (by decide +kernel)) (by decide +kernel)
theorem ko_X4_100 : Cond.constant RX4 100 (-99999 : Int32) ∈ BG := BG_t (List.mem_of_getElem? (i := 631) (by decide +kernel)) (by decide +kernel)
theorem ko_X4_101 : Cond.constant RX4 101 (99999 : Int32) ∈ BG := BG_t (List.mem_of_getElem? (i := 632) (by decide +kernel)) (by decide +kernel)
theorem ar_int : Cond.arrayClass .int ∈ BG := BG_t (List.mem_of_getElem? (i := 586) (by decide +kernel)) (by decide +kernel)
theorem ar_boolean : Cond.arrayClass .boolean ∈ BG := BG_t (List.mem_of_getElem? (i := 587) (by decide +kernel)) (by decide +kernel)
theorem ar_long : Cond.arrayClass .long ∈ BG := BG_t (List.mem_of_getElem? (i := 774) (by decide +kernel)) (by decide +kernel)
theorem ar_double : Cond.arrayClass .double ∈ BG := BG_t (List.mem_of_getElem? (i := 775) (by decide +kernel)) (by decide +kernel)
theorem ta_nIA : ∀ w ∈ (vx_atS RX3 35 nIA ["java/lang/RuntimeException", "java/lang/Exception"]).filter goodWord, w ∈ BG := fun w hw => BG_t ((by decide +kernel : ∀ w ∈ (vx_atS RX3 35 nIA ["java/lang/RuntimeException", "java/lang/Exception"]).filter goodWord, w ∈ tables_1) w hw) (List.mem_filter.mp hw).2
theorem tb_nIA : ∀ w ∈ (vx_atS RX3 35 nIA ["java/lang/RuntimeException", "java/lang/Exception"]).filter (fun w => !goodWord w), w ∈ Cond.castable nIA nIA :: jDecl.map Cond.declares := by decide +kernel
theorem tc_nIA : ∀ w ∈ Cond.classLink RX3 31 nIA :: Cond.initialized nIA :: vx_atS RX3 35 nIA ["java/lang/RuntimeException", "java/lang/Exception"], vx_ot w = true := by decide +kernel
theorem ta_nIS : ∀ w ∈ (vx_atS RX3 46 nIS ["java/lang/RuntimeException", "java/lang/Exception"]).filter goodWord, w ∈ BG := fun w hw => BG_t ((by decide +kernel : ∀ w ∈ (vx_atS RX3 46 nIS ["java/lang/RuntimeException", "java/lang/Exception"]).filter goodWord, w ∈ tables_1) w hw) (List.mem_filter.mp hw).2
theorem tb_nIS : ∀ w ∈ (vx_atS RX3 46 nIS ["java/lang/RuntimeException", "java/lang/Exception"]).filter (fun w => !goodWord w), w ∈ Cond.castable nIS nIS :: jDecl.map Cond.declares := by decide +kernel
theorem tc_nIS : ∀ w ∈ Cond.classLink RX3 42 nIS :: Cond.initialized nIS :: vx_atS RX3 46 nIS ["java/lang/RuntimeException", "java/lang/Exception"], vx_ot w = true := by decide +kernel
theorem ta_nIO : ∀ w ∈ (vx_atS RX3 76 nIO ["java/lang/RuntimeException", "java/lang/Exception"]).filter goodWord, w ∈ BG := fun w hw => BG_t ((by decide +kernel : ∀ w ∈ (vx_atS RX3 76 nIO ["java/lang/RuntimeException", "java/lang/Exception"]).filter goodWord, w ∈ tables_1) w hw) (List.mem_filter.mp hw).2
theorem tb_nIO : ∀ w ∈ (vx_atS RX3 76 nIO ["java/lang/RuntimeException", "java/lang/Exception"]).filter (fun w => !goodWord w), w ∈ Cond.castable nIO nIO :: jDecl.map Cond.declares := by decide +kernel
theorem tc_nIO : ∀ w ∈ Cond.classLink RX3 72 nIO :: Cond.initialized nIO :: vx_atS RX3 76 nIO ["java/lang/RuntimeException", "java/lang/Exception"], vx_ot w = true := by decide +kernel
theorem ts_31_33 : TS RX3 31 33 35 nIA "tolerance, uncertainty or interval out of range" ["java/lang/RuntimeException", "java/lang/Exception"] := ⟨by decide +kernel, by decide +kernel, BG_t (List.mem_of_getElem? (i := 168) (by decide +kernel)) (by decide +kernel), BG_t (List.mem_of_getElem? (i := 7) (by decide +kernel)) (by decide +kernel), by decide +kernel, by decide +kernel, ta_nIA, tb_nIA, tc_nIA⟩
theorem ts_42_44 : TS RX3 42 44 46 nIS "no more instruments" ["java/lang/RuntimeException", "java/lang/Exception"] := ⟨by decide +kernel, by decide +kernel, BG_t (List.mem_of_getElem? (i := 184) (by decide +kernel)) (by decide +kernel), BG_t (List.mem_of_getElem? (i := 8) (by decide +kernel)) (by decide +kernel), by decide +kernel, by decide +kernel, ta_nIS, tb_nIS, tc_nIS⟩
theorem ts_42_61 : TS RX3 42 61 46 nIS "an instrument would be its own reference" ["java/lang/RuntimeException", "java/lang/Exception"] := ⟨by decide +kernel, by decide +kernel, BG_t (List.mem_of_getElem? (i := 184) (by decide +kernel)) (by decide +kernel), BG_t (List.mem_of_getElem? (i := 8) (by decide +kernel)) (by decide +kernel), by decide +kernel, by decide +kernel, ta_nIS, tb_nIS, tc_nIS⟩
theorem ts_31_67 : TS RX3 31 67 35 nIA "days out of range" ["java/lang/RuntimeException", "java/lang/Exception"] := ⟨by decide +kernel, by decide +kernel, BG_t (List.mem_of_getElem? (i := 168) (by decide +kernel)) (by decide +kernel), BG_t (List.mem_of_getElem? (i := 7) (by decide +kernel)) (by decide +kernel), by decide +kernel, by decide +kernel, ta_nIA, tb_nIA, tc_nIA⟩
theorem ts_72_74 : TS RX3 72 74 76 nIO "no such instrument" ["java/lang/RuntimeException", "java/lang/Exception"] := ⟨by decide +kernel, by decide +kernel, BG_t (List.mem_of_getElem? (i := 100) (by decide +kernel)) (by decide +kernel), BG_t (List.mem_of_getElem? (i := 6) (by decide +kernel)) (by decide +kernel), by decide +kernel, by decide +kernel, ta_nIO, tb_nIO, tc_nIO⟩
theorem ts_31_84 : TS RX3 31 84 35 nIA "found or left out of range" ["java/lang/RuntimeException", "java/lang/Exception"] := ⟨by decide +kernel, by decide +kernel, BG_t (List.mem_of_getElem? (i := 168) (by decide +kernel)) (by decide +kernel), BG_t (List.mem_of_getElem? (i := 7) (by decide +kernel)) (by decide +kernel), by decide +kernel, by decide +kernel, ta_nIA, tb_nIA, tc_nIA⟩
theorem ts_42_90 : TS RX3 42 90 46 nIS "its reference is not trusted" ["java/lang/RuntimeException", "java/lang/Exception"] := ⟨by decide +kernel, by decide +kernel, BG_t (List.mem_of_getElem? (i := 184) (by decide +kernel)) (by decide +kernel), BG_t (List.mem_of_getElem? (i := 8) (by decide +kernel)) (by decide +kernel), by decide +kernel, by decide +kernel, ta_nIS, tb_nIS, tc_nIS⟩
theorem ts_42_116 : TS RX3 42 116 46 nIS "it is not trusted, or no more measurements" ["java/lang/RuntimeException", "java/lang/Exception"] := ⟨by decide +kernel, by decide +kernel, BG_t (List.mem_of_getElem? (i := 184) (by decide +kernel)) (by decide +kernel), BG_t (List.mem_of_getElem? (i := 8) (by decide +kernel)) (by decide +kernel), by decide +kernel, by decide +kernel, ta_nIS, tb_nIS, tc_nIS⟩
theorem ts_42_193 : TS RX3 42 193 46 nIS "it is not calibrated" ["java/lang/RuntimeException", "java/lang/Exception"] := ⟨by decide +kernel, by decide +kernel, BG_t (List.mem_of_getElem? (i := 184) (by decide +kernel)) (by decide +kernel), BG_t (List.mem_of_getElem? (i := 8) (by decide +kernel)) (by decide +kernel), by decide +kernel, by decide +kernel, ta_nIS, tb_nIS, tc_nIS⟩
theorem ts_72_219 : TS RX3 72 219 76 nIO "no such measurement" ["java/lang/RuntimeException", "java/lang/Exception"] := ⟨by decide +kernel, by decide +kernel, BG_t (List.mem_of_getElem? (i := 100) (by decide +kernel)) (by decide +kernel), BG_t (List.mem_of_getElem? (i := 6) (by decide +kernel)) (by decide +kernel), by decide +kernel, by decide +kernel, ta_nIO, tb_nIO, tc_nIO⟩
theorem ts_31_247 : TS RX3 31 247 35 nIA "each out of range" ["java/lang/RuntimeException", "java/lang/Exception"] := ⟨by decide +kernel, by decide +kernel, BG_t (List.mem_of_getElem? (i := 168) (by decide +kernel)) (by decide +kernel), BG_t (List.mem_of_getElem? (i := 7) (by decide +kernel)) (by decide +kernel), by decide +kernel, by decide +kernel, ta_nIA, tb_nIA, tc_nIA⟩
end
section
/-! ===== the states: S of the class, T of the model; a number for each field and index; -1 is no reference ===== -/
abbrev St : Type := Nat → Int → Int
def up (S : St) (f : Nat) (i v : Int) : St := fun g j => if g = f then (if j = i then v else S g j) else S g j
theorem up_s {S : St} {f : Nat} {i v : Int} : up S f i v f i = v := by simp [up]
theorem up_f {S : St} {f g : Nat} {i j v : Int} (h : g ≠ f) : up S f i v g j = S g j := by simp [up, h]
theorem up_i {S : St} {f g : Nat} {i j v : Int} (h : j ≠ i) : up S f i v g j = S g j := by simp [up, h]
def pt (ad : Int → Nat) (v : Int) : Option Nat := if v < 0 then none else some (ad v)
theorem pt_n {ad : Int → Nat} {v : Int} (h : v < 0) : pt ad v = none := by simp [pt, h]
theorem pt_s {ad : Int → Nat} {v : Int} (h : 0 ≤ v) : pt ad v = some (ad v) := by simp [pt, Int.not_lt.mpr h]
theorem pt_none {ad : Int → Nat} {v : Int} (h : pt ad v = none) : v < 0 := by
  unfold pt at h
  split at h
  · assumption
  · cases h
theorem pt_some {ad : Int → Nat} {v : Int} {a : Nat} (h : pt ad v = some a) : 0 ≤ v ∧ a = ad v := by
  unfold pt at h
  split at h
  · cases h
  · exact ⟨by omega, (Option.some.inj h).symm⟩
/-- a row of the first c of something -/
def rw_ (ad : Int → Nat) (c : Int) : Nat → Option Nat := fun j => if (j : Int) < c then some (ad j) else none
theorem rw_in {ad : Int → Nat} {c i : Int} (h0 : 0 ≤ i) (h1 : i < c) : rw_ ad c i.toNat = some (ad i) := by
  unfold rw_
  rw [Int.toNat_of_nonneg h0, if_pos h1]
theorem rw_out {ad : Int → Nat} {c i : Int} (h0 : 0 ≤ i) (h1 : c ≤ i) : rw_ ad c i.toNat = none := by
  unfold rw_
  rw [Int.toNat_of_nonneg h0, if_neg (by omega)]
theorem rw_pt {ad : Int → Nat} {c i : Int} (h0 : 0 ≤ i) : rw_ ad c i.toNat = pt ad (if i < c then i else -1) := by
  by_cases h : i < c
  · rw [rw_in h0 h, if_pos h, pt_s h0]
  · rw [rw_out h0 (by omega), if_neg h, pt_n (by omega)]
theorem rw_add {ad : Int → Nat} {c : Int} (h0 : 0 ≤ c) : va_up (rw_ ad c) c.toNat (some (ad c)) = rw_ ad (c + 1) := by
  funext j
  unfold va_up rw_
  by_cases h : j = c.toNat
  · subst h
    rw [if_pos rfl, Int.toNat_of_nonneg h0, if_pos (by omega)]
  · rw [if_neg h]
    by_cases h2 : (j : Int) < c
    · rw [if_pos h2, if_pos (by omega)]
    · rw [if_neg h2, if_neg (by omega)]
theorem rw_cong {ad ad' : Int → Nat} {c : Int} (h : ∀ i, 0 ≤ i → i < c → ad' i = ad i) : rw_ ad' c = rw_ ad c := by
  funext j
  unfold rw_
  by_cases h2 : (j : Int) < c
  · rw [if_pos h2, if_pos h2, h _ (by omega) h2]
  · rw [if_neg h2, if_neg h2]
abbrev cKal (ad : Nat → Int → Nat) (S : St) (j : Int) : va_E := .inr (0, [.int (iI (S 20 j)), .int (iI (S 21 j)), .int (iI (S 22 j)), va_rf (pt (ad 2) (S 23 j)), va_rf (pt (ad 2) (S 24 j)), .int (iI (S 25 j)), .int (iI (S 26 j)), .int (iI (S 27 j)), .int (iI (S 28 j)), .int (iI (S 29 j))])
abbrev cIns (ad : Nat → Int → Nat) (S : St) (j : Int) : va_E := .inr (1, [.int (iI (S 10 j)), .int (iI (S 11 j)), .int (iI (S 12 j)), .int (iI (S 13 j)), va_rf (pt (ad 1) (S 14 j)), va_rf (pt (ad 2) (S 15 j)), .int (iI (S 16 j)), .long (iL (S 17 j)), .long (iL (S 18 j))])
abbrev cMea (ad : Nat → Int → Nat) (S : St) (j : Int) : va_E := .inr (2, [.int (iI (S 30 j)), va_rf (pt (ad 2) (S 31 j)), .int (iI (S 32 j))])
abbrev cCal (ad : Nat → Int → Nat) (S : St) (_ : Int) : va_E := .inr (3, [.ref (ad 0 1), .ref (ad 0 2), .ref (ad 0 3), .int (iI (S 3 0)), .int (iI (S 4 0)), .int (iI (S 5 0)), .int (iI (S 6 0)), .int (iI (S 7 0)), .int (iI (S 8 0))])
abbrev eRow (cA : ClassId) (N : Nat) (f : Nat → Option Nat) : va_E := .inl (cA, N, .inr (.inr (.inr (.inr f))))
abbrev eInt (cA : ClassId) (N : Nat) (f : Nat → Int32) : va_E := .inl (cA, N, .inl f)
/-- whose a cell is: 0 the class's, 1 the model's, 2 the law's -/
def kd : va_E → Nat
  | .inr (4, _) => 1
  | .inr (_, _) => 0
  | .inl (_, _, .inl _) => 1
  | .inl (_, _, .inr (.inr (.inr (.inr _)))) => 0
  | .inl _ => 2
/-- all cells but those of c stay -/
def Fr (c : Nat) (w w' : Wd) : Prop := ∀ (q : Nat) (e : va_E), w q = some e → kd e ≠ c → w' q = some e
theorem Fr.rf {c : Nat} {w : Wd} : Fr c w w := fun _ _ h _ => h
theorem Fr.tr {c : Nat} {w w1 w2 : Wd} (h1 : Fr c w w1) (h2 : Fr c w1 w2) : Fr c w w2 := fun q e h hk => h2 q e (h1 q e h hk) hk
theorem Fr.set {c : Nat} {w : Wd} {a : Nat} {e e' : va_E} (h : w a = some e) (hk : kd e = c) : Fr c w (wu w a e') := by
  intro q e1 hq hk1
  by_cases hqa : q = a
  · subst hqa
    rw [h] at hq
    cases hq
    exact absurd hk hk1
  · rw [wu_n hqa]; exact hq
theorem Fr.new {c : Nat} {w : Wd} {a : Nat} {e' : va_E} (h : w a = none) : Fr c w (wu w a e') := by
  intro q e1 hq hk1
  by_cases hqa : q = a
  · subst hqa
    rw [h] at hq
    cases hq
  · rw [wu_n hqa]; exact hq
/-- the class's cells: n instruments, nc calibrations, nm measurements, the three rows -/
def CW (base : Nat) (ca : Nat → ClassId) (ad : Nat → Int → Nat) (n nc nm : Int) (S : St) (w : Wd) : Prop :=
  (w (ad 0 0) = some (cCal ad S 0) ∧ w (ad 0 1) = some (eRow (ca 2) 12 (rw_ (ad 1) (S 3 0))) ∧ w (ad 0 2) = some (eRow (ca 3) 200 (rw_ (ad 3) (S 4 0))) ∧ w (ad 0 3) = some (eRow (ca 4) 512 (rw_ (ad 2) (S 5 0)))) ∧
  (base ≤ ad 0 0 ∧ base ≤ ad 0 1 ∧ base ≤ ad 0 2 ∧ base ≤ ad 0 3) ∧
  (∀ i, 0 ≤ i → i < n → base ≤ ad 1 i ∧ w (ad 1 i) = some (cIns ad S i)) ∧ (∀ i, 0 ≤ i → i < nc → base ≤ ad 2 i ∧ w (ad 2 i) = some (cKal ad S i)) ∧ (∀ i, 0 ≤ i → i < nm → base ≤ ad 3 i ∧ w (ad 3 i) = some (cMea ad S i)) ∧
  (∀ i j, 0 ≤ i → i < n → 0 ≤ j → j < n → ad 1 i = ad 1 j → i = j) ∧ (∀ i j, 0 ≤ i → i < nc → 0 ≤ j → j < nc → ad 2 i = ad 2 j → i = j) ∧ (∀ i j, 0 ≤ i → i < nm → 0 ≤ j → j < nm → ad 3 i = ad 3 j → i = j)
section CWS
variable {base : Nat} {ca : Nat → ClassId} {ad : Nat → Int → Nat} {n nc nm : Int} {S : St} {w : Wd}
theorem CW.cal (h : CW base ca ad n nc nm S w) : w (ad 0 0) = some (cCal ad S 0) := h.1.1
theorem CW.told (h : CW base ca ad n nc nm S w) : w (ad 0 1) = some (eRow (ca 2) 12 (rw_ (ad 1) (S 3 0))) := h.1.2.1
theorem CW.made (h : CW base ca ad n nc nm S w) : w (ad 0 2) = some (eRow (ca 3) 200 (rw_ (ad 3) (S 4 0))) := h.1.2.2.1
theorem CW.log (h : CW base ca ad n nc nm S w) : w (ad 0 3) = some (eRow (ca 4) 512 (rw_ (ad 2) (S 5 0))) := h.1.2.2.2
theorem CW.ins (h : CW base ca ad n nc nm S w) {i : Int} (h0 : 0 ≤ i) (h1 : i < n) : w (ad 1 i) = some (cIns ad S i) := (h.2.2.1 i h0 h1).2
theorem CW.kal (h : CW base ca ad n nc nm S w) {i : Int} (h0 : 0 ≤ i) (h1 : i < nc) : w (ad 2 i) = some (cKal ad S i) := (h.2.2.2.1 i h0 h1).2
theorem CW.mea (h : CW base ca ad n nc nm S w) {i : Int} (h0 : 0 ≤ i) (h1 : i < nm) : w (ad 3 i) = some (cMea ad S i) := (h.2.2.2.2.1 i h0 h1).2
theorem CW.inj1 (h : CW base ca ad n nc nm S w) {i j : Int} (h0 : 0 ≤ i) (h1 : i < n) (h2 : 0 ≤ j) (h3 : j < n) (e : ad 1 i = ad 1 j) : i = j := h.2.2.2.2.2.1 i j h0 h1 h2 h3 e
theorem CW.inj2 (h : CW base ca ad n nc nm S w) {i j : Int} (h0 : 0 ≤ i) (h1 : i < nc) (h2 : 0 ≤ j) (h3 : j < nc) (e : ad 2 i = ad 2 j) : i = j := h.2.2.2.2.2.2.1 i j h0 h1 h2 h3 e
theorem CW.inj3 (h : CW base ca ad n nc nm S w) {i j : Int} (h0 : 0 ≤ i) (h1 : i < nm) (h2 : 0 ≤ j) (h3 : j < nm) (e : ad 3 i = ad 3 j) : i = j := h.2.2.2.2.2.2.2 i j h0 h1 h2 h3 e
theorem CW.b0 (h : CW base ca ad n nc nm S w) : base ≤ ad 0 0 := h.2.1.1
theorem CW.b1 (h : CW base ca ad n nc nm S w) {i : Int} (h0 : 0 ≤ i) (h1 : i < n) : base ≤ ad 1 i := (h.2.2.1 i h0 h1).1
theorem CW.b2 (h : CW base ca ad n nc nm S w) {i : Int} (h0 : 0 ≤ i) (h1 : i < nc) : base ≤ ad 2 i := (h.2.2.2.1 i h0 h1).1
theorem CW.b3 (h : CW base ca ad n nc nm S w) {i : Int} (h0 : 0 ≤ i) (h1 : i < nm) : base ≤ ad 3 i := (h.2.2.2.2.1 i h0 h1).1
/-- the class's cells stay where others write -/
theorem CW.fr {c : Nat} {w' : Wd} (h : CW base ca ad n nc nm S w) (hc : c ≠ 0) (hF : Fr c w w') : CW base ca ad n nc nm S w' := by
  obtain ⟨⟨h1, h2, h3, h4⟩, h5, h6, h7, h8, h9⟩ := h
  exact ⟨⟨hF _ _ h1 hc.symm, hF _ _ h2 hc.symm, hF _ _ h3 hc.symm, hF _ _ h4 hc.symm⟩, h5, fun i a b => ⟨(h6 i a b).1, hF _ _ (h6 i a b).2 hc.symm⟩, fun i a b => ⟨(h7 i a b).1, hF _ _ (h7 i a b).2 hc.symm⟩, fun i a b => ⟨(h8 i a b).1, hF _ _ (h8 i a b).2 hc.symm⟩, h9⟩
/-- fewer of each -/
theorem CW.less {n' nc' nm' : Int} (h : CW base ca ad n nc nm S w) (h1 : n' ≤ n) (h2 : nc' ≤ nc) (h3 : nm' ≤ nm) : CW base ca ad n' nc' nm' S w := by
  obtain ⟨g1, g2, g3, g4, g5, g6, g7, g8⟩ := h
  exact ⟨g1, g2, fun i a b => g3 i a (by omega), fun i a b => g4 i a (by omega), fun i a b => g5 i a (by omega), fun i j a b c d => g6 i j a (by omega) c (by omega), fun i j a b c d => g7 i j a (by omega) c (by omega), fun i j a b c d => g8 i j a (by omega) c (by omega)⟩
theorem CW.put_ (S' : St) {a : Nat} {e e' : va_E} (h : CW base ca ad n nc nm S w) (he : w a = some e) (hA : w (ad 0 0) = some (cCal ad S 0) → wu w a e' (ad 0 0) = some (cCal ad S' 0))
    (hr : S' 3 0 = S 3 0 ∧ S' 4 0 = S 4 0 ∧ S' 5 0 = S 5 0) (hk : ∀ f, e ≠ eRow (ca 2) 12 f ∧ e ≠ eRow (ca 3) 200 f ∧ e ≠ eRow (ca 4) 512 f)
    (h1 : ∀ i, 0 ≤ i → i < n → wu w a e' (ad 1 i) = some (cIns ad S' i)) (h2 : ∀ i, 0 ≤ i → i < nc → wu w a e' (ad 2 i) = some (cKal ad S' i)) (h3 : ∀ i, 0 ≤ i → i < nm → wu w a e' (ad 3 i) = some (cMea ad S' i)) : CW base ca ad n nc nm S' (wu w a e') := by
  obtain ⟨⟨g1, g2, g3, g4⟩, g5, g6, g7, g8, g9⟩ := h
  obtain ⟨r1, r2, r3⟩ := hr
  refine ⟨⟨hA g1, ?_, ?_, ?_⟩, g5, fun i a b => ⟨(g6 i a b).1, h1 i a b⟩, fun i a b => ⟨(g7 i a b).1, h2 i a b⟩, fun i a b => ⟨(g8 i a b).1, h3 i a b⟩, g9⟩
  · rw [wu_n (fun z => by rw [z, he] at g2; exact (hk _).1 (Option.some.inj g2)), r1]; exact g2
  · rw [wu_n (fun z => by rw [z, he] at g3; exact (hk _).2.1 (Option.some.inj g3)), r2]; exact g3
  · rw [wu_n (fun z => by rw [z, he] at g4; exact (hk _).2.2 (Option.some.inj g4)), r3]; exact g4
theorem ne_of_cell {w : Wd} {a b : Nat} {e e' : va_E} (h : w a = some e) (h' : w b = some e') (hne : e ≠ e') : a ≠ b := fun z => by
  rw [z, h'] at h
  exact hne (Option.some.inj h).symm
theorem CW.put10 (h : CW base ca ad n nc nm S w) {i : Int} (h0 : 0 ≤ i) (h1 : i < n) (v : Int) : CW base ca ad n nc nm (up S 10 i v) (wu w (ad 1 i) (.inr (1, (match cIns ad S i with | .inr (_, l) => l | _ => []).set 0 (.int (iI v))))) := by
  refine CW.put_ (up S 10 i v) h (h.ins h0 h1) (fun g => ?_) ⟨up_f (by decide), up_f (by decide), up_f (by decide)⟩ (fun f => ⟨(fun z => by cases z), (fun z => by cases z), (fun z => by cases z)⟩) ?_ ?_ ?_
  · rw [wu_n (ne_of_cell g (h.ins h0 h1) (fun z => by cases z)), g]; rfl
  · intro j a b
    by_cases hj : j = i
    · subst hj
      rw [wu_s]
      simp [cIns, up]
    · rw [wu_n (fun z => hj (h.inj1 a b h0 h1 z)), h.ins a b]
      simp [cIns, up, hj]
  · intro j a b
    rw [wu_n (ne_of_cell (h.kal a b) (h.ins h0 h1) (fun z => by cases z)), h.kal a b]
    rfl
  · intro j a b
    rw [wu_n (ne_of_cell (h.mea a b) (h.ins h0 h1) (fun z => by cases z)), h.mea a b]
    rfl
theorem CW.put11 (h : CW base ca ad n nc nm S w) {i : Int} (h0 : 0 ≤ i) (h1 : i < n) (v : Int) : CW base ca ad n nc nm (up S 11 i v) (wu w (ad 1 i) (.inr (1, (match cIns ad S i with | .inr (_, l) => l | _ => []).set 1 (.int (iI v))))) := by
  refine CW.put_ (up S 11 i v) h (h.ins h0 h1) (fun g => ?_) ⟨up_f (by decide), up_f (by decide), up_f (by decide)⟩ (fun f => ⟨(fun z => by cases z), (fun z => by cases z), (fun z => by cases z)⟩) ?_ ?_ ?_
  · rw [wu_n (ne_of_cell g (h.ins h0 h1) (fun z => by cases z)), g]; rfl
  · intro j a b
    by_cases hj : j = i
    · subst hj
      rw [wu_s]
      simp [cIns, up]
    · rw [wu_n (fun z => hj (h.inj1 a b h0 h1 z)), h.ins a b]
      simp [cIns, up, hj]
  · intro j a b
    rw [wu_n (ne_of_cell (h.kal a b) (h.ins h0 h1) (fun z => by cases z)), h.kal a b]
    rfl
  · intro j a b
    rw [wu_n (ne_of_cell (h.mea a b) (h.ins h0 h1) (fun z => by cases z)), h.mea a b]
    rfl
theorem CW.put12 (h : CW base ca ad n nc nm S w) {i : Int} (h0 : 0 ≤ i) (h1 : i < n) (v : Int) : CW base ca ad n nc nm (up S 12 i v) (wu w (ad 1 i) (.inr (1, (match cIns ad S i with | .inr (_, l) => l | _ => []).set 2 (.int (iI v))))) := by
  refine CW.put_ (up S 12 i v) h (h.ins h0 h1) (fun g => ?_) ⟨up_f (by decide), up_f (by decide), up_f (by decide)⟩ (fun f => ⟨(fun z => by cases z), (fun z => by cases z), (fun z => by cases z)⟩) ?_ ?_ ?_
  · rw [wu_n (ne_of_cell g (h.ins h0 h1) (fun z => by cases z)), g]; rfl
  · intro j a b
    by_cases hj : j = i
    · subst hj
      rw [wu_s]
      simp [cIns, up]
    · rw [wu_n (fun z => hj (h.inj1 a b h0 h1 z)), h.ins a b]
      simp [cIns, up, hj]
  · intro j a b
    rw [wu_n (ne_of_cell (h.kal a b) (h.ins h0 h1) (fun z => by cases z)), h.kal a b]
    rfl
  · intro j a b
    rw [wu_n (ne_of_cell (h.mea a b) (h.ins h0 h1) (fun z => by cases z)), h.mea a b]
    rfl
theorem CW.put13 (h : CW base ca ad n nc nm S w) {i : Int} (h0 : 0 ≤ i) (h1 : i < n) (v : Int) : CW base ca ad n nc nm (up S 13 i v) (wu w (ad 1 i) (.inr (1, (match cIns ad S i with | .inr (_, l) => l | _ => []).set 3 (.int (iI v))))) := by
  refine CW.put_ (up S 13 i v) h (h.ins h0 h1) (fun g => ?_) ⟨up_f (by decide), up_f (by decide), up_f (by decide)⟩ (fun f => ⟨(fun z => by cases z), (fun z => by cases z), (fun z => by cases z)⟩) ?_ ?_ ?_
  · rw [wu_n (ne_of_cell g (h.ins h0 h1) (fun z => by cases z)), g]; rfl
  · intro j a b
    by_cases hj : j = i
    · subst hj
      rw [wu_s]
      simp [cIns, up]
    · rw [wu_n (fun z => hj (h.inj1 a b h0 h1 z)), h.ins a b]
      simp [cIns, up, hj]
  · intro j a b
    rw [wu_n (ne_of_cell (h.kal a b) (h.ins h0 h1) (fun z => by cases z)), h.kal a b]
    rfl
  · intro j a b
    rw [wu_n (ne_of_cell (h.mea a b) (h.ins h0 h1) (fun z => by cases z)), h.mea a b]
    rfl
theorem CW.put14 (h : CW base ca ad n nc nm S w) {i : Int} (h0 : 0 ≤ i) (h1 : i < n) (v : Int) : CW base ca ad n nc nm (up S 14 i v) (wu w (ad 1 i) (.inr (1, (match cIns ad S i with | .inr (_, l) => l | _ => []).set 4 (va_rf (pt (ad 1) v))))) := by
  refine CW.put_ (up S 14 i v) h (h.ins h0 h1) (fun g => ?_) ⟨up_f (by decide), up_f (by decide), up_f (by decide)⟩ (fun f => ⟨(fun z => by cases z), (fun z => by cases z), (fun z => by cases z)⟩) ?_ ?_ ?_
  · rw [wu_n (ne_of_cell g (h.ins h0 h1) (fun z => by cases z)), g]; rfl
  · intro j a b
    by_cases hj : j = i
    · subst hj
      rw [wu_s]
      simp [cIns, up]
    · rw [wu_n (fun z => hj (h.inj1 a b h0 h1 z)), h.ins a b]
      simp [cIns, up, hj]
  · intro j a b
    rw [wu_n (ne_of_cell (h.kal a b) (h.ins h0 h1) (fun z => by cases z)), h.kal a b]
    rfl
  · intro j a b
    rw [wu_n (ne_of_cell (h.mea a b) (h.ins h0 h1) (fun z => by cases z)), h.mea a b]
    rfl
theorem CW.put15 (h : CW base ca ad n nc nm S w) {i : Int} (h0 : 0 ≤ i) (h1 : i < n) (v : Int) : CW base ca ad n nc nm (up S 15 i v) (wu w (ad 1 i) (.inr (1, (match cIns ad S i with | .inr (_, l) => l | _ => []).set 5 (va_rf (pt (ad 2) v))))) := by
  refine CW.put_ (up S 15 i v) h (h.ins h0 h1) (fun g => ?_) ⟨up_f (by decide), up_f (by decide), up_f (by decide)⟩ (fun f => ⟨(fun z => by cases z), (fun z => by cases z), (fun z => by cases z)⟩) ?_ ?_ ?_
  · rw [wu_n (ne_of_cell g (h.ins h0 h1) (fun z => by cases z)), g]; rfl
  · intro j a b
    by_cases hj : j = i
    · subst hj
      rw [wu_s]
      simp [cIns, up]
    · rw [wu_n (fun z => hj (h.inj1 a b h0 h1 z)), h.ins a b]
      simp [cIns, up, hj]
  · intro j a b
    rw [wu_n (ne_of_cell (h.kal a b) (h.ins h0 h1) (fun z => by cases z)), h.kal a b]
    rfl
  · intro j a b
    rw [wu_n (ne_of_cell (h.mea a b) (h.ins h0 h1) (fun z => by cases z)), h.mea a b]
    rfl
theorem CW.put16 (h : CW base ca ad n nc nm S w) {i : Int} (h0 : 0 ≤ i) (h1 : i < n) (v : Int) : CW base ca ad n nc nm (up S 16 i v) (wu w (ad 1 i) (.inr (1, (match cIns ad S i with | .inr (_, l) => l | _ => []).set 6 (.int (iI v))))) := by
  refine CW.put_ (up S 16 i v) h (h.ins h0 h1) (fun g => ?_) ⟨up_f (by decide), up_f (by decide), up_f (by decide)⟩ (fun f => ⟨(fun z => by cases z), (fun z => by cases z), (fun z => by cases z)⟩) ?_ ?_ ?_
  · rw [wu_n (ne_of_cell g (h.ins h0 h1) (fun z => by cases z)), g]; rfl
  · intro j a b
    by_cases hj : j = i
    · subst hj
      rw [wu_s]
      simp [cIns, up]
    · rw [wu_n (fun z => hj (h.inj1 a b h0 h1 z)), h.ins a b]
      simp [cIns, up, hj]
  · intro j a b
    rw [wu_n (ne_of_cell (h.kal a b) (h.ins h0 h1) (fun z => by cases z)), h.kal a b]
    rfl
  · intro j a b
    rw [wu_n (ne_of_cell (h.mea a b) (h.ins h0 h1) (fun z => by cases z)), h.mea a b]
    rfl
theorem CW.put17 (h : CW base ca ad n nc nm S w) {i : Int} (h0 : 0 ≤ i) (h1 : i < n) (v : Int) : CW base ca ad n nc nm (up S 17 i v) (wu w (ad 1 i) (.inr (1, (match cIns ad S i with | .inr (_, l) => l | _ => []).set 7 (.long (iL v))))) := by
  refine CW.put_ (up S 17 i v) h (h.ins h0 h1) (fun g => ?_) ⟨up_f (by decide), up_f (by decide), up_f (by decide)⟩ (fun f => ⟨(fun z => by cases z), (fun z => by cases z), (fun z => by cases z)⟩) ?_ ?_ ?_
  · rw [wu_n (ne_of_cell g (h.ins h0 h1) (fun z => by cases z)), g]; rfl
  · intro j a b
    by_cases hj : j = i
    · subst hj
      rw [wu_s]
      simp [cIns, up]
    · rw [wu_n (fun z => hj (h.inj1 a b h0 h1 z)), h.ins a b]
      simp [cIns, up, hj]
  · intro j a b
    rw [wu_n (ne_of_cell (h.kal a b) (h.ins h0 h1) (fun z => by cases z)), h.kal a b]
    rfl
  · intro j a b
    rw [wu_n (ne_of_cell (h.mea a b) (h.ins h0 h1) (fun z => by cases z)), h.mea a b]
    rfl
theorem CW.put18 (h : CW base ca ad n nc nm S w) {i : Int} (h0 : 0 ≤ i) (h1 : i < n) (v : Int) : CW base ca ad n nc nm (up S 18 i v) (wu w (ad 1 i) (.inr (1, (match cIns ad S i with | .inr (_, l) => l | _ => []).set 8 (.long (iL v))))) := by
  refine CW.put_ (up S 18 i v) h (h.ins h0 h1) (fun g => ?_) ⟨up_f (by decide), up_f (by decide), up_f (by decide)⟩ (fun f => ⟨(fun z => by cases z), (fun z => by cases z), (fun z => by cases z)⟩) ?_ ?_ ?_
  · rw [wu_n (ne_of_cell g (h.ins h0 h1) (fun z => by cases z)), g]; rfl
  · intro j a b
    by_cases hj : j = i
    · subst hj
      rw [wu_s]
      simp [cIns, up]
    · rw [wu_n (fun z => hj (h.inj1 a b h0 h1 z)), h.ins a b]
      simp [cIns, up, hj]
  · intro j a b
    rw [wu_n (ne_of_cell (h.kal a b) (h.ins h0 h1) (fun z => by cases z)), h.kal a b]
    rfl
  · intro j a b
    rw [wu_n (ne_of_cell (h.mea a b) (h.ins h0 h1) (fun z => by cases z)), h.mea a b]
    rfl
theorem CW.put20 (h : CW base ca ad n nc nm S w) {i : Int} (h0 : 0 ≤ i) (h1 : i < nc) (v : Int) : CW base ca ad n nc nm (up S 20 i v) (wu w (ad 2 i) (.inr (0, (match cKal ad S i with | .inr (_, l) => l | _ => []).set 0 (.int (iI v))))) := by
  refine CW.put_ (up S 20 i v) h (h.kal h0 h1) (fun g => ?_) ⟨up_f (by decide), up_f (by decide), up_f (by decide)⟩ (fun f => ⟨(fun z => by cases z), (fun z => by cases z), (fun z => by cases z)⟩) ?_ ?_ ?_
  · rw [wu_n (ne_of_cell g (h.kal h0 h1) (fun z => by cases z)), g]; rfl
  · intro j a b
    rw [wu_n (ne_of_cell (h.ins a b) (h.kal h0 h1) (fun z => by cases z)), h.ins a b]
    rfl
  · intro j a b
    by_cases hj : j = i
    · subst hj
      rw [wu_s]
      simp [cKal, up]
    · rw [wu_n (fun z => hj (h.inj2 a b h0 h1 z)), h.kal a b]
      simp [cKal, up, hj]
  · intro j a b
    rw [wu_n (ne_of_cell (h.mea a b) (h.kal h0 h1) (fun z => by cases z)), h.mea a b]
    rfl
theorem CW.put21 (h : CW base ca ad n nc nm S w) {i : Int} (h0 : 0 ≤ i) (h1 : i < nc) (v : Int) : CW base ca ad n nc nm (up S 21 i v) (wu w (ad 2 i) (.inr (0, (match cKal ad S i with | .inr (_, l) => l | _ => []).set 1 (.int (iI v))))) := by
  refine CW.put_ (up S 21 i v) h (h.kal h0 h1) (fun g => ?_) ⟨up_f (by decide), up_f (by decide), up_f (by decide)⟩ (fun f => ⟨(fun z => by cases z), (fun z => by cases z), (fun z => by cases z)⟩) ?_ ?_ ?_
  · rw [wu_n (ne_of_cell g (h.kal h0 h1) (fun z => by cases z)), g]; rfl
  · intro j a b
    rw [wu_n (ne_of_cell (h.ins a b) (h.kal h0 h1) (fun z => by cases z)), h.ins a b]
    rfl
  · intro j a b
    by_cases hj : j = i
    · subst hj
      rw [wu_s]
      simp [cKal, up]
    · rw [wu_n (fun z => hj (h.inj2 a b h0 h1 z)), h.kal a b]
      simp [cKal, up, hj]
  · intro j a b
    rw [wu_n (ne_of_cell (h.mea a b) (h.kal h0 h1) (fun z => by cases z)), h.mea a b]
    rfl
theorem CW.put22 (h : CW base ca ad n nc nm S w) {i : Int} (h0 : 0 ≤ i) (h1 : i < nc) (v : Int) : CW base ca ad n nc nm (up S 22 i v) (wu w (ad 2 i) (.inr (0, (match cKal ad S i with | .inr (_, l) => l | _ => []).set 2 (.int (iI v))))) := by
  refine CW.put_ (up S 22 i v) h (h.kal h0 h1) (fun g => ?_) ⟨up_f (by decide), up_f (by decide), up_f (by decide)⟩ (fun f => ⟨(fun z => by cases z), (fun z => by cases z), (fun z => by cases z)⟩) ?_ ?_ ?_
  · rw [wu_n (ne_of_cell g (h.kal h0 h1) (fun z => by cases z)), g]; rfl
  · intro j a b
    rw [wu_n (ne_of_cell (h.ins a b) (h.kal h0 h1) (fun z => by cases z)), h.ins a b]
    rfl
  · intro j a b
    by_cases hj : j = i
    · subst hj
      rw [wu_s]
      simp [cKal, up]
    · rw [wu_n (fun z => hj (h.inj2 a b h0 h1 z)), h.kal a b]
      simp [cKal, up, hj]
  · intro j a b
    rw [wu_n (ne_of_cell (h.mea a b) (h.kal h0 h1) (fun z => by cases z)), h.mea a b]
    rfl
theorem CW.put23 (h : CW base ca ad n nc nm S w) {i : Int} (h0 : 0 ≤ i) (h1 : i < nc) (v : Int) : CW base ca ad n nc nm (up S 23 i v) (wu w (ad 2 i) (.inr (0, (match cKal ad S i with | .inr (_, l) => l | _ => []).set 3 (va_rf (pt (ad 2) v))))) := by
  refine CW.put_ (up S 23 i v) h (h.kal h0 h1) (fun g => ?_) ⟨up_f (by decide), up_f (by decide), up_f (by decide)⟩ (fun f => ⟨(fun z => by cases z), (fun z => by cases z), (fun z => by cases z)⟩) ?_ ?_ ?_
  · rw [wu_n (ne_of_cell g (h.kal h0 h1) (fun z => by cases z)), g]; rfl
  · intro j a b
    rw [wu_n (ne_of_cell (h.ins a b) (h.kal h0 h1) (fun z => by cases z)), h.ins a b]
    rfl
  · intro j a b
    by_cases hj : j = i
    · subst hj
      rw [wu_s]
      simp [cKal, up]
    · rw [wu_n (fun z => hj (h.inj2 a b h0 h1 z)), h.kal a b]
      simp [cKal, up, hj]
  · intro j a b
    rw [wu_n (ne_of_cell (h.mea a b) (h.kal h0 h1) (fun z => by cases z)), h.mea a b]
    rfl
theorem CW.put24 (h : CW base ca ad n nc nm S w) {i : Int} (h0 : 0 ≤ i) (h1 : i < nc) (v : Int) : CW base ca ad n nc nm (up S 24 i v) (wu w (ad 2 i) (.inr (0, (match cKal ad S i with | .inr (_, l) => l | _ => []).set 4 (va_rf (pt (ad 2) v))))) := by
  refine CW.put_ (up S 24 i v) h (h.kal h0 h1) (fun g => ?_) ⟨up_f (by decide), up_f (by decide), up_f (by decide)⟩ (fun f => ⟨(fun z => by cases z), (fun z => by cases z), (fun z => by cases z)⟩) ?_ ?_ ?_
  · rw [wu_n (ne_of_cell g (h.kal h0 h1) (fun z => by cases z)), g]; rfl
  · intro j a b
    rw [wu_n (ne_of_cell (h.ins a b) (h.kal h0 h1) (fun z => by cases z)), h.ins a b]
    rfl
  · intro j a b
    by_cases hj : j = i
    · subst hj
      rw [wu_s]
      simp [cKal, up]
    · rw [wu_n (fun z => hj (h.inj2 a b h0 h1 z)), h.kal a b]
      simp [cKal, up, hj]
  · intro j a b
    rw [wu_n (ne_of_cell (h.mea a b) (h.kal h0 h1) (fun z => by cases z)), h.mea a b]
    rfl
theorem CW.put25 (h : CW base ca ad n nc nm S w) {i : Int} (h0 : 0 ≤ i) (h1 : i < nc) (v : Int) : CW base ca ad n nc nm (up S 25 i v) (wu w (ad 2 i) (.inr (0, (match cKal ad S i with | .inr (_, l) => l | _ => []).set 5 (.int (iI v))))) := by
  refine CW.put_ (up S 25 i v) h (h.kal h0 h1) (fun g => ?_) ⟨up_f (by decide), up_f (by decide), up_f (by decide)⟩ (fun f => ⟨(fun z => by cases z), (fun z => by cases z), (fun z => by cases z)⟩) ?_ ?_ ?_
  · rw [wu_n (ne_of_cell g (h.kal h0 h1) (fun z => by cases z)), g]; rfl
  · intro j a b
    rw [wu_n (ne_of_cell (h.ins a b) (h.kal h0 h1) (fun z => by cases z)), h.ins a b]
    rfl
  · intro j a b
    by_cases hj : j = i
    · subst hj
      rw [wu_s]
      simp [cKal, up]
    · rw [wu_n (fun z => hj (h.inj2 a b h0 h1 z)), h.kal a b]
      simp [cKal, up, hj]
  · intro j a b
    rw [wu_n (ne_of_cell (h.mea a b) (h.kal h0 h1) (fun z => by cases z)), h.mea a b]
    rfl
theorem CW.put26 (h : CW base ca ad n nc nm S w) {i : Int} (h0 : 0 ≤ i) (h1 : i < nc) (v : Int) : CW base ca ad n nc nm (up S 26 i v) (wu w (ad 2 i) (.inr (0, (match cKal ad S i with | .inr (_, l) => l | _ => []).set 6 (.int (iI v))))) := by
  refine CW.put_ (up S 26 i v) h (h.kal h0 h1) (fun g => ?_) ⟨up_f (by decide), up_f (by decide), up_f (by decide)⟩ (fun f => ⟨(fun z => by cases z), (fun z => by cases z), (fun z => by cases z)⟩) ?_ ?_ ?_
  · rw [wu_n (ne_of_cell g (h.kal h0 h1) (fun z => by cases z)), g]; rfl
  · intro j a b
    rw [wu_n (ne_of_cell (h.ins a b) (h.kal h0 h1) (fun z => by cases z)), h.ins a b]
    rfl
  · intro j a b
    by_cases hj : j = i
    · subst hj
      rw [wu_s]
      simp [cKal, up]
    · rw [wu_n (fun z => hj (h.inj2 a b h0 h1 z)), h.kal a b]
      simp [cKal, up, hj]
  · intro j a b
    rw [wu_n (ne_of_cell (h.mea a b) (h.kal h0 h1) (fun z => by cases z)), h.mea a b]
    rfl
theorem CW.put27 (h : CW base ca ad n nc nm S w) {i : Int} (h0 : 0 ≤ i) (h1 : i < nc) (v : Int) : CW base ca ad n nc nm (up S 27 i v) (wu w (ad 2 i) (.inr (0, (match cKal ad S i with | .inr (_, l) => l | _ => []).set 7 (.int (iI v))))) := by
  refine CW.put_ (up S 27 i v) h (h.kal h0 h1) (fun g => ?_) ⟨up_f (by decide), up_f (by decide), up_f (by decide)⟩ (fun f => ⟨(fun z => by cases z), (fun z => by cases z), (fun z => by cases z)⟩) ?_ ?_ ?_
  · rw [wu_n (ne_of_cell g (h.kal h0 h1) (fun z => by cases z)), g]; rfl
  · intro j a b
    rw [wu_n (ne_of_cell (h.ins a b) (h.kal h0 h1) (fun z => by cases z)), h.ins a b]
    rfl
  · intro j a b
    by_cases hj : j = i
    · subst hj
      rw [wu_s]
      simp [cKal, up]
    · rw [wu_n (fun z => hj (h.inj2 a b h0 h1 z)), h.kal a b]
      simp [cKal, up, hj]
  · intro j a b
    rw [wu_n (ne_of_cell (h.mea a b) (h.kal h0 h1) (fun z => by cases z)), h.mea a b]
    rfl
theorem CW.put28 (h : CW base ca ad n nc nm S w) {i : Int} (h0 : 0 ≤ i) (h1 : i < nc) (v : Int) : CW base ca ad n nc nm (up S 28 i v) (wu w (ad 2 i) (.inr (0, (match cKal ad S i with | .inr (_, l) => l | _ => []).set 8 (.int (iI v))))) := by
  refine CW.put_ (up S 28 i v) h (h.kal h0 h1) (fun g => ?_) ⟨up_f (by decide), up_f (by decide), up_f (by decide)⟩ (fun f => ⟨(fun z => by cases z), (fun z => by cases z), (fun z => by cases z)⟩) ?_ ?_ ?_
  · rw [wu_n (ne_of_cell g (h.kal h0 h1) (fun z => by cases z)), g]; rfl
  · intro j a b
    rw [wu_n (ne_of_cell (h.ins a b) (h.kal h0 h1) (fun z => by cases z)), h.ins a b]
    rfl
  · intro j a b
    by_cases hj : j = i
    · subst hj
      rw [wu_s]
      simp [cKal, up]
    · rw [wu_n (fun z => hj (h.inj2 a b h0 h1 z)), h.kal a b]
      simp [cKal, up, hj]
  · intro j a b
    rw [wu_n (ne_of_cell (h.mea a b) (h.kal h0 h1) (fun z => by cases z)), h.mea a b]
    rfl
theorem CW.put29 (h : CW base ca ad n nc nm S w) {i : Int} (h0 : 0 ≤ i) (h1 : i < nc) (v : Int) : CW base ca ad n nc nm (up S 29 i v) (wu w (ad 2 i) (.inr (0, (match cKal ad S i with | .inr (_, l) => l | _ => []).set 9 (.int (iI v))))) := by
  refine CW.put_ (up S 29 i v) h (h.kal h0 h1) (fun g => ?_) ⟨up_f (by decide), up_f (by decide), up_f (by decide)⟩ (fun f => ⟨(fun z => by cases z), (fun z => by cases z), (fun z => by cases z)⟩) ?_ ?_ ?_
  · rw [wu_n (ne_of_cell g (h.kal h0 h1) (fun z => by cases z)), g]; rfl
  · intro j a b
    rw [wu_n (ne_of_cell (h.ins a b) (h.kal h0 h1) (fun z => by cases z)), h.ins a b]
    rfl
  · intro j a b
    by_cases hj : j = i
    · subst hj
      rw [wu_s]
      simp [cKal, up]
    · rw [wu_n (fun z => hj (h.inj2 a b h0 h1 z)), h.kal a b]
      simp [cKal, up, hj]
  · intro j a b
    rw [wu_n (ne_of_cell (h.mea a b) (h.kal h0 h1) (fun z => by cases z)), h.mea a b]
    rfl
theorem CW.put30 (h : CW base ca ad n nc nm S w) {i : Int} (h0 : 0 ≤ i) (h1 : i < nm) (v : Int) : CW base ca ad n nc nm (up S 30 i v) (wu w (ad 3 i) (.inr (2, (match cMea ad S i with | .inr (_, l) => l | _ => []).set 0 (.int (iI v))))) := by
  refine CW.put_ (up S 30 i v) h (h.mea h0 h1) (fun g => ?_) ⟨up_f (by decide), up_f (by decide), up_f (by decide)⟩ (fun f => ⟨(fun z => by cases z), (fun z => by cases z), (fun z => by cases z)⟩) ?_ ?_ ?_
  · rw [wu_n (ne_of_cell g (h.mea h0 h1) (fun z => by cases z)), g]; rfl
  · intro j a b
    rw [wu_n (ne_of_cell (h.ins a b) (h.mea h0 h1) (fun z => by cases z)), h.ins a b]
    rfl
  · intro j a b
    rw [wu_n (ne_of_cell (h.kal a b) (h.mea h0 h1) (fun z => by cases z)), h.kal a b]
    rfl
  · intro j a b
    by_cases hj : j = i
    · subst hj
      rw [wu_s]
      simp [cMea, up]
    · rw [wu_n (fun z => hj (h.inj3 a b h0 h1 z)), h.mea a b]
      simp [cMea, up, hj]
theorem CW.put31 (h : CW base ca ad n nc nm S w) {i : Int} (h0 : 0 ≤ i) (h1 : i < nm) (v : Int) : CW base ca ad n nc nm (up S 31 i v) (wu w (ad 3 i) (.inr (2, (match cMea ad S i with | .inr (_, l) => l | _ => []).set 1 (va_rf (pt (ad 2) v))))) := by
  refine CW.put_ (up S 31 i v) h (h.mea h0 h1) (fun g => ?_) ⟨up_f (by decide), up_f (by decide), up_f (by decide)⟩ (fun f => ⟨(fun z => by cases z), (fun z => by cases z), (fun z => by cases z)⟩) ?_ ?_ ?_
  · rw [wu_n (ne_of_cell g (h.mea h0 h1) (fun z => by cases z)), g]; rfl
  · intro j a b
    rw [wu_n (ne_of_cell (h.ins a b) (h.mea h0 h1) (fun z => by cases z)), h.ins a b]
    rfl
  · intro j a b
    rw [wu_n (ne_of_cell (h.kal a b) (h.mea h0 h1) (fun z => by cases z)), h.kal a b]
    rfl
  · intro j a b
    by_cases hj : j = i
    · subst hj
      rw [wu_s]
      simp [cMea, up]
    · rw [wu_n (fun z => hj (h.inj3 a b h0 h1 z)), h.mea a b]
      simp [cMea, up, hj]
theorem CW.put32 (h : CW base ca ad n nc nm S w) {i : Int} (h0 : 0 ≤ i) (h1 : i < nm) (v : Int) : CW base ca ad n nc nm (up S 32 i v) (wu w (ad 3 i) (.inr (2, (match cMea ad S i with | .inr (_, l) => l | _ => []).set 2 (.int (iI v))))) := by
  refine CW.put_ (up S 32 i v) h (h.mea h0 h1) (fun g => ?_) ⟨up_f (by decide), up_f (by decide), up_f (by decide)⟩ (fun f => ⟨(fun z => by cases z), (fun z => by cases z), (fun z => by cases z)⟩) ?_ ?_ ?_
  · rw [wu_n (ne_of_cell g (h.mea h0 h1) (fun z => by cases z)), g]; rfl
  · intro j a b
    rw [wu_n (ne_of_cell (h.ins a b) (h.mea h0 h1) (fun z => by cases z)), h.ins a b]
    rfl
  · intro j a b
    rw [wu_n (ne_of_cell (h.kal a b) (h.mea h0 h1) (fun z => by cases z)), h.kal a b]
    rfl
  · intro j a b
    by_cases hj : j = i
    · subst hj
      rw [wu_s]
      simp [cMea, up]
    · rw [wu_n (fun z => hj (h.inj3 a b h0 h1 z)), h.mea a b]
      simp [cMea, up, hj]
theorem CW.put6 (h : CW base ca ad n nc nm S w) (v : Int) : CW base ca ad n nc nm (up S 6 0 v) (wu w (ad 0 0) (.inr (3, (match cCal ad S 0 with | .inr (_, l) => l | _ => []).set 6 (.int (iI v))))) := by
  refine CW.put_ (up S 6 0 v) h h.cal (fun g => ?_) ⟨up_f (by decide), up_f (by decide), up_f (by decide)⟩ (fun f => ⟨(fun z => by cases z), (fun z => by cases z), (fun z => by cases z)⟩) ?_ ?_ ?_
  · rw [wu_s]
    simp [cCal, up]
  · intro j a b
    rw [wu_n (ne_of_cell (h.ins a b) h.cal (fun z => by cases z)), h.ins a b]
    rfl
  · intro j a b
    rw [wu_n (ne_of_cell (h.kal a b) h.cal (fun z => by cases z)), h.kal a b]
    rfl
  · intro j a b
    rw [wu_n (ne_of_cell (h.mea a b) h.cal (fun z => by cases z)), h.mea a b]
    rfl
theorem CW.put7 (h : CW base ca ad n nc nm S w) (v : Int) : CW base ca ad n nc nm (up S 7 0 v) (wu w (ad 0 0) (.inr (3, (match cCal ad S 0 with | .inr (_, l) => l | _ => []).set 7 (.int (iI v))))) := by
  refine CW.put_ (up S 7 0 v) h h.cal (fun g => ?_) ⟨up_f (by decide), up_f (by decide), up_f (by decide)⟩ (fun f => ⟨(fun z => by cases z), (fun z => by cases z), (fun z => by cases z)⟩) ?_ ?_ ?_
  · rw [wu_s]
    simp [cCal, up]
  · intro j a b
    rw [wu_n (ne_of_cell (h.ins a b) h.cal (fun z => by cases z)), h.ins a b]
    rfl
  · intro j a b
    rw [wu_n (ne_of_cell (h.kal a b) h.cal (fun z => by cases z)), h.kal a b]
    rfl
  · intro j a b
    rw [wu_n (ne_of_cell (h.mea a b) h.cal (fun z => by cases z)), h.mea a b]
    rfl
theorem CW.put8 (h : CW base ca ad n nc nm S w) (v : Int) : CW base ca ad n nc nm (up S 8 0 v) (wu w (ad 0 0) (.inr (3, (match cCal ad S 0 with | .inr (_, l) => l | _ => []).set 8 (.int (iI v))))) := by
  refine CW.put_ (up S 8 0 v) h h.cal (fun g => ?_) ⟨up_f (by decide), up_f (by decide), up_f (by decide)⟩ (fun f => ⟨(fun z => by cases z), (fun z => by cases z), (fun z => by cases z)⟩) ?_ ?_ ?_
  · rw [wu_s]
    simp [cCal, up]
  · intro j a b
    rw [wu_n (ne_of_cell (h.ins a b) h.cal (fun z => by cases z)), h.ins a b]
    rfl
  · intro j a b
    rw [wu_n (ne_of_cell (h.kal a b) h.cal (fun z => by cases z)), h.kal a b]
    rfl
  · intro j a b
    rw [wu_n (ne_of_cell (h.mea a b) h.cal (fun z => by cases z)), h.mea a b]
    rfl
end CWS
end
section
section JROWS3
variable {p : Program} {l : Launch} {e : Env} {R : Room} {s : State} {m : MethodId} {args : Array Value} {below : List Frame} {meth : Method} {c : Code} {Q : State → Prop} {D : va_G} {ca : Nat → ClassId} {base nL k n pc q : Nat} {lv lv' : List (Nat × Value)} {st : List Value} {w : Wd} {y : MethodName} {cc : ByteArray} {ret : Option FieldType}
theorem j_st (kk : J p l e R s m args below meth c Q D base nL k n pc lv st w) : J p l e R s m args below meth c Q D base nL k n pc lv st w := kk
theorem cat_rf (r : Option Nat) : (va_rf r).category = 1 := by cases r <;> rfl
theorem cat_i (x : Int32) : (Value.int x).category = 1 := rfl
theorem cat_l (x : Int64) : (Value.long x).category = 2 := rfl
theorem cat_r (x : Nat) : (Value.ref x).category = 1 := rfl
theorem cat_rfs {r : Option Nat} {x : Nat} (h : (va_rf r).category = x) : x = 1 := h.symm.trans (cat_rf r)
theorem j_getp (X : Cx p l s m args meth c y cc nL ret D ca base) {idx ci f : Nat} {ak : Int → Nat} {z : Int} {fs : List Value} {v : Value} (hf : FL y.cls idx ci f) (h0 : 0 ≤ z) (he : w (ak z) = some (.inr (ci, fs))) (hv : fs[f]? = some v) (d : decode cc pc = .ok (.getfield idx, 3)) (hq : pc + 3 = q) (kk : J p l e R s m args below meth c Q D base nL k n q lv (v :: st) w) : J p l e R s m args below meth c Q D base nL k n pc lv (va_rf (pt ak z) :: st) w := by
  rw [pt_s h0]
  exact j_get X hf he hv d hq kk
theorem j_ifnullp (X : Cx p l s m args meth c y cc nL ret D ca base) {ak : Int → Nat} {z : Int} {off : Int} {tgt : Nat} (d : decode cc pc = .ok (.ifnull off, 3)) (ht : (pc : Int) + off = (tgt : Int)) (hq : pc + 3 = q) (kt : z < 0 → J p l e R s m args below meth c Q D base nL k n tgt lv st w) (kf : 0 ≤ z → J p l e R s m args below meth c Q D base nL k n q lv st w) : J p l e R s m args below meth c Q D base nL k n pc lv (va_rf (pt ak z) :: st) w :=
  j_ifnull X d ht hq (fun h => kt (pt_none h)) (fun _ h => kf (pt_some h).1)
theorem j_ifnonnullp (X : Cx p l s m args meth c y cc nL ret D ca base) {ak : Int → Nat} {z : Int} {off : Int} {tgt : Nat} (d : decode cc pc = .ok (.ifnonnull off, 3)) (ht : (pc : Int) + off = (tgt : Int)) (hq : pc + 3 = q) (kt : 0 ≤ z → J p l e R s m args below meth c Q D base nL k n tgt lv st w) (kf : z < 0 → J p l e R s m args below meth c Q D base nL k n q lv st w) : J p l e R s m args below meth c Q D base nL k n pc lv (va_rf (pt ak z) :: st) w :=
  j_ifnonnull X d ht hq (fun _ h => kt (pt_some h).1) (fun h => kf (pt_none h))
theorem j_ifnull_r (X : Cx p l s m args meth c y cc nL ret D ca base) {a : Nat} {off : Int} (d : decode cc pc = .ok (.ifnull off, 3)) (hq : pc + 3 = q) (kk : J p l e R s m args below meth c Q D base nL k n q lv st w) : J p l e R s m args below meth c Q D base nL k n pc lv (.ref a :: st) w := by
  subst hq
  exact fun ls H locs hl hP hS => lv_ifnull X.1 X.2.1 d (kk ls H locs hl hP hS)
theorem j_ifnonnull_r (X : Cx p l s m args meth c y cc nL ret D ca base) {a : Nat} {off : Int} {tgt : Nat} (d : decode cc pc = .ok (.ifnonnull off, 3)) (ht : (pc : Int) + off = (tgt : Int)) (kk : J p l e R s m args below meth c Q D base nL k n tgt lv st w) : J p l e R s m args below meth c Q D base nL k n pc lv (.ref a :: st) w :=
  fun ls H locs hl hP hS => lv_ifnonnull X.1 X.2.1 d ht (kk ls H locs hl hP hS)
end JROWS3
def ends (ref : Int → Int) : Nat → Int → Prop
  | 0, u => u < 0
  | k + 1, u => u < 0 ∨ ends ref k (ref u)
theorem ends_neg {ref : Int → Int} {u : Int} (h : u < 0) : ∀ k, ends ref k u
  | 0 => h
  | _ + 1 => Or.inl h
theorem ends_up {ref : Int → Int} : ∀ {k : Nat} {u : Int}, ends ref k u → ends ref (k + 1) u
  | 0, _, h => Or.inl h
  | k + 1, u, h => h.elim Or.inl fun h => Or.inr (ends_up h)
theorem ends_st {ref : Int → Int} {k : Nat} {u : Int} (h : ends ref (k + 1) u) (h0 : 0 ≤ u) : ends ref k (ref u) := h.elim (fun z => absurd z (by omega)) id
theorem ends_0 {ref : Int → Int} {u : Int} (h : ends ref 0 u) : u < 0 := h
def RI (n nc : Int) (S : St) (i : Int) : Prop := S 10 i = i ∧ (1 ≤ S 11 i ∧ S 11 i ≤ 9999) ∧ (0 ≤ S 12 i ∧ S 12 i ≤ 999) ∧ (1 ≤ S 13 i ∧ S 13 i ≤ 999) ∧ (-1 ≤ S 14 i ∧ S 14 i < n) ∧ (-1 ≤ S 15 i ∧ S 15 i < nc) ∧ (0 ≤ S 16 i ∧ S 16 i ≤ 512) ∧ (-900000000000 ≤ S 17 i ∧ S 17 i ≤ 900000000000) ∧ (0 ≤ S 18 i ∧ S 18 i ≤ 2200000000000)
def RK (S : St) (j : Int) : Prop := (0 ≤ S 20 j ∧ S 20 j ≤ 512) ∧ (0 ≤ S 21 j ∧ S 21 j ≤ 511488) ∧ (-99999 ≤ S 22 j ∧ S 22 j ≤ 99999) ∧ (-1 ≤ S 23 j ∧ S 23 j < j) ∧ (-1 ≤ S 24 j ∧ S 24 j < j) ∧ (0 ≤ S 25 j ∧ S 25 j ≤ 1) ∧ (0 ≤ S 26 j ∧ S 26 j ≤ 1) ∧ (0 ≤ S 27 j ∧ S 27 j ≤ 1000000) ∧ (0 ≤ S 28 j ∧ S 28 j ≤ 511488) ∧ (-199998 ≤ S 29 j ∧ S 29 j ≤ 199998)
def RM (nc : Int) (S : St) (k : Int) : Prop := (0 ≤ S 30 k ∧ S 30 k ≤ 512) ∧ (0 ≤ S 31 k ∧ S 31 k < nc) ∧ (0 ≤ S 32 k ∧ S 32 k ≤ 1)
def IC (n nc nm : Int) (S : St) : Prop := ((0 ≤ n ∧ n ≤ 12) ∧ (0 ≤ nc ∧ nc ≤ 512) ∧ (0 ≤ nm ∧ nm ≤ 200) ∧ S 3 0 = n ∧ S 4 0 = nm ∧ (0 ≤ S 5 0 ∧ S 5 0 ≤ nc) ∧ (0 ≤ S 6 0 ∧ S 6 0 ≤ 200) ∧ (0 ≤ S 7 0 ∧ S 7 0 ≤ 511488) ∧ (0 ≤ S 8 0 ∧ S 8 0 ≤ 512)) ∧
  (∀ i, 0 ≤ i → i < n → RI n nc S i) ∧ (∀ j, 0 ≤ j → j < nc → RK S j) ∧ (∀ k, 0 ≤ k → k < nm → RM nc S k) ∧ ∀ i, 0 ≤ i → i < n → ends (S 14) 12 i
section ICS
variable {n nc nm : Int} {S : St}
theorem IC.ins (h : IC n nc nm S) {i : Int} (h0 : 0 ≤ i) (h1 : i < n) : RI n nc S i := h.2.1 i h0 h1
theorem IC.kal (h : IC n nc nm S) {i : Int} (h0 : 0 ≤ i) (h1 : i < nc) : RK S i := h.2.2.1 i h0 h1
theorem IC.mea (h : IC n nc nm S) {i : Int} (h0 : 0 ≤ i) (h1 : i < nm) : RM nc S i := h.2.2.2.1 i h0 h1
theorem IC.ends (h : IC n nc nm S) {i : Int} (h0 : -1 ≤ i) (h1 : i < n) : ends (S 14) 12 i := by
  by_cases hi : 0 ≤ i
  · exact h.2.2.2.2 i hi h1
  · exact ends_neg (by omega) _
theorem IC.top (h : IC n nc nm S) : (0 ≤ n ∧ n ≤ 12) ∧ (0 ≤ nc ∧ nc ≤ 512) ∧ (0 ≤ nm ∧ nm ≤ 200) ∧ S 3 0 = n ∧ S 4 0 = nm ∧ (0 ≤ S 5 0 ∧ S 5 0 ≤ nc) ∧ (0 ≤ S 6 0 ∧ S 6 0 ≤ 200) ∧ (0 ≤ S 7 0 ∧ S 7 0 ≤ 511488) ∧ (0 ≤ S 8 0 ∧ S 8 0 ≤ 512) := h.1
end ICS
/-- 1 or 0 -/
def tf (c : Prop) [Decidable c] : Int := if c then 1 else 0
theorem tf_t {c : Prop} [Decidable c] (h : c) : tf c = 1 := if_pos h
theorem tf_f {c : Prop} [Decidable c] (h : ¬ c) : tf c = 0 := if_neg h
theorem tf_b (c : Prop) [Decidable c] : 0 ≤ tf c ∧ tf c ≤ 1 := by unfold tf; split <;> decide
theorem b01 {z : Int} (h : 0 ≤ z ∧ z ≤ 1) : iI z = 0 ∨ iI z = 1 := by
  rcases (show z = 0 ∨ z = 1 by omega) with rfl | rfl
  · exact Or.inl rfl
  · exact Or.inr rfl
theorem tf_eq {c d : Prop} [Decidable c] [Decidable d] (h : c ↔ d) : tf c = tf d := by
  by_cases hc : c
  · rw [tf_t hc, tf_t (h.mp hc)]
  · rw [tf_f hc, tf_f (fun z => hc (h.mpr z))]
def inCh (ref : Int → Int) : Nat → Int → Int → Int
  | 0, _, _ => 0
  | k + 1, u, i => if u < 0 then 0 else if u = i then 1 else inCh ref k (ref u) i
theorem inCh_b (ref : Int → Int) : ∀ (k : Nat) (u i : Int), 0 ≤ inCh ref k u i ∧ inCh ref k u i ≤ 1
  | 0, _, _ => by simp [inCh]
  | k + 1, u, i => by
    unfold inCh
    split
    · decide
    · split
      · decide
      · exact inCh_b ref k _ _
def fof (ref inF : Int → Int) : Nat → Int → Int
  | 0, _ => -1
  | k + 1, u => if u < 0 then -1 else if inF u = 0 then u else fof ref inF k (ref u)
def len (ref : Int → Int) : Nat → Int → Int
  | 0, _ => 0
  | k + 1, u => if u < 0 then 0 else 1 + len ref k (ref u)
def inF (S : St) (i : Int) : Int := tf (0 ≤ S 15 i ∧ S 7 0 ≤ S 21 (S 15 i) + S 13 i ∧ S 26 (S 15 i) = 0)
def rst (S : St) (f mom : Int) : Nat → Int → Int
  | 0, _ => 0
  | k + 1, u => if u < 0 then 0 else if u = f then 1 else if S 27 u < mom then 0 else rst S f mom k (S 24 u)
theorem rst_b (S : St) (f mom : Int) : ∀ (k : Nat) (u : Int), 0 ≤ rst S f mom k u ∧ rst S f mom k u ≤ 1
  | 0, _ => by simp [rst]
  | k + 1, u => by
    unfold rst
    split
    · decide
    · split
      · decide
      · split
        · decide
        · exact rst_b S f mom k _
end
section
set_option maxRecDepth 100000 in
set_option maxHeartbeats 4000000 in
theorem c_X3_today {l : Launch} (hlt : l.stackTraces = false) {D : va_G} {ca : Nat → ClassId} {base : Nat} {ad : Nat → Int → Nat} {n nc nm : Int} {S : St} {w : Wd} (hC : CW base ca ad n nc nm S w) (hI : IC n nc nm S) : CT l D ca base yX3_today cX3_today 1 (some .int) 0 0 0 [.ref (ad 0 0)] w (fun v w' => v = some (.int (iI (S 7 0))) ∧ w = w') (fun _ _ => False) := by
  obtain ⟨hn, hnc, hnm, e3, e4, e5, h6, h7, h8⟩ := hI.top
  refine CT.mk hlt (by decide +kernel) (by first | exact Nat.le_of_ble_eq_true rfl | simp [lg_sl, cat_rf, cat_i, cat_l, cat_r]) ?_
  intro p e s m args below meth c X htab
  rw [show lv_args 0 [.ref (ad 0 0)] = [(0, .ref (ad 0 0))] from by first | rfl | simp [lv_args, cat_rf, cat_i, cat_l, cat_r]]
  refine j_aload_n X dX3_today_0 (q := 1) rfl 0 rfl ?_
  refine j_get X (v := .int (iI (S 7 0))) fl_X3_69 hC.cal rfl dX3_today_1 (q := 4) rfl ?_
  exact j_iret X rfl dX3_today_4 (⟨rfl, rfl⟩) (by decide) (by decide)

set_option maxRecDepth 100000 in
set_option maxHeartbeats 4000000 in
theorem c_X3_instruments {l : Launch} (hlt : l.stackTraces = false) {D : va_G} {ca : Nat → ClassId} {base : Nat} {ad : Nat → Int → Nat} {n nc nm : Int} {S : St} {w : Wd} (hC : CW base ca ad n nc nm S w) (hI : IC n nc nm S) : CT l D ca base yX3_instruments cX3_instruments 1 (some .int) 0 0 0 [.ref (ad 0 0)] w (fun v w' => v = some (.int (iI (S 3 0))) ∧ w = w') (fun _ _ => False) := by
  obtain ⟨hn, hnc, hnm, e3, e4, e5, h6, h7, h8⟩ := hI.top
  refine CT.mk hlt (by decide +kernel) (by first | exact Nat.le_of_ble_eq_true rfl | simp [lg_sl, cat_rf, cat_i, cat_l, cat_r]) ?_
  intro p e s m args below meth c X htab
  rw [show lv_args 0 [.ref (ad 0 0)] = [(0, .ref (ad 0 0))] from by first | rfl | simp [lv_args, cat_rf, cat_i, cat_l, cat_r]]
  refine j_aload_n X dX3_instruments_0 (q := 1) rfl 0 rfl ?_
  refine j_get X (v := .int (iI (S 3 0))) fl_X3_38 hC.cal rfl dX3_instruments_1 (q := 4) rfl ?_
  exact j_iret X rfl dX3_instruments_4 (⟨rfl, rfl⟩) (by decide) (by decide)

set_option maxRecDepth 100000 in
set_option maxHeartbeats 4000000 in
theorem c_X3_measurements {l : Launch} (hlt : l.stackTraces = false) {D : va_G} {ca : Nat → ClassId} {base : Nat} {ad : Nat → Int → Nat} {n nc nm : Int} {S : St} {w : Wd} (hC : CW base ca ad n nc nm S w) (hI : IC n nc nm S) : CT l D ca base yX3_measurements cX3_measurements 1 (some .int) 0 0 0 [.ref (ad 0 0)] w (fun v w' => v = some (.int (iI (S 4 0))) ∧ w = w') (fun _ _ => False) := by
  obtain ⟨hn, hnc, hnm, e3, e4, e5, h6, h7, h8⟩ := hI.top
  refine CT.mk hlt (by decide +kernel) (by first | exact Nat.le_of_ble_eq_true rfl | simp [lg_sl, cat_rf, cat_i, cat_l, cat_r]) ?_
  intro p e s m args below meth c X htab
  rw [show lv_args 0 [.ref (ad 0 0)] = [(0, .ref (ad 0 0))] from by first | rfl | simp [lv_args, cat_rf, cat_i, cat_l, cat_r]]
  refine j_aload_n X dX3_measurements_0 (q := 1) rfl 0 rfl ?_
  refine j_get X (v := .int (iI (S 4 0))) fl_X3_113 hC.cal rfl dX3_measurements_1 (q := 4) rfl ?_
  exact j_iret X rfl dX3_measurements_4 (⟨rfl, rfl⟩) (by decide) (by decide)

set_option maxRecDepth 100000 in
set_option maxHeartbeats 4000000 in
theorem c_X3_calledBack {l : Launch} (hlt : l.stackTraces = false) {D : va_G} {ca : Nat → ClassId} {base : Nat} {ad : Nat → Int → Nat} {n nc nm : Int} {S : St} {w : Wd} (hC : CW base ca ad n nc nm S w) (hI : IC n nc nm S) : CT l D ca base yX3_calledBack cX3_calledBack 1 (some .int) 0 0 0 [.ref (ad 0 0)] w (fun v w' => v = some (.int (iI (S 6 0))) ∧ w = w') (fun _ _ => False) := by
  obtain ⟨hn, hnc, hnm, e3, e4, e5, h6, h7, h8⟩ := hI.top
  refine CT.mk hlt (by decide +kernel) (by first | exact Nat.le_of_ble_eq_true rfl | simp [lg_sl, cat_rf, cat_i, cat_l, cat_r]) ?_
  intro p e s m args below meth c X htab
  rw [show lv_args 0 [.ref (ad 0 0)] = [(0, .ref (ad 0 0))] from by first | rfl | simp [lv_args, cat_rf, cat_i, cat_l, cat_r]]
  refine j_aload_n X dX3_calledBack_0 (q := 1) rfl 0 rfl ?_
  refine j_get X (v := .int (iI (S 6 0))) fl_X3_224 hC.cal rfl dX3_calledBack_1 (q := 4) rfl ?_
  exact j_iret X rfl dX3_calledBack_4 (⟨rfl, rfl⟩) (by decide) (by decide)

set_option maxRecDepth 100000 in
set_option maxHeartbeats 4000000 in
theorem c_X3_isNoError {l : Launch} (hlt : l.stackTraces = false) {D : va_G} {ca : Nat → ClassId} {base : Nat} {ad : Nat → Int → Nat} {n nc nm : Int} {S : St} {w : Wd} (hC : CW base ca ad n nc nm S w) (hI : IC n nc nm S) (z : Int) (hz : -2147483648 ≤ z ∧ z ≤ 2147483647) : CT l D ca base yX3_isNoError cX3_isNoError 1 (some .boolean) 0 0 0 [.int (iI (z))] w (fun v w' => v = some (.int (iI (tf (z < -99999 ∨ 99999 < z)))) ∧ w = w') (fun _ _ => False) := by
  obtain ⟨hn, hnc, hnm, e3, e4, e5, h6, h7, h8⟩ := hI.top
  refine CT.mk hlt (by decide +kernel) (by first | exact Nat.le_of_ble_eq_true rfl | simp [lg_sl, cat_rf, cat_i, cat_l, cat_r]) ?_
  intro p e s m args below meth c X htab
  rw [show lv_args 0 [.int (iI (z))] = [(0, .int (iI (z)))] from by first | rfl | simp [lv_args, cat_rf, cat_i, cat_l, cat_r]]
  refine j_iload_n X dX3_isNoError_0 (q := 1) rfl 0 rfl ?_
  refine j_ldc X (a := -99999) ko_X3_121 rfl dX3_isNoError_1 (q := 3) rfl ?_
  refine j_icmp_lt X (tgt := 12) dX3_isNoError_3 (by decide) (q := 6) rfl (by omega) (by omega) (fun c_3 => ?_) (fun c_3 => ?_)
  · skip
    refine j_iconst X (a := 1) dX3_isNoError_12 (q := 13) rfl ?_
    refine j_goto X (tgt := 17) dX3_isNoError_13 (by decide) ?_
    exact j_zret X rfl (Or.inr rfl) dX3_isNoError_17 (⟨by rw [tf_t (by omega)], rfl⟩) (by decide) (by decide)
  · skip
    refine j_iload_n X dX3_isNoError_6 (q := 7) rfl 0 rfl ?_
    refine j_ldc X (a := 99999) ko_X3_122 rfl dX3_isNoError_7 (q := 9) rfl ?_
    refine j_icmp_le X (tgt := 16) dX3_isNoError_9 (by decide) (q := 12) rfl (by omega) (by omega) (fun c_9 => ?_) (fun c_9 => ?_)
    · skip
      refine j_iconst X (a := 0) dX3_isNoError_16 (q := 17) rfl ?_
      exact j_zret X rfl (Or.inl rfl) dX3_isNoError_17 (⟨by rw [tf_f (by omega)], rfl⟩) (by decide) (by decide)
    · skip
      refine j_iconst X (a := 1) dX3_isNoError_12 (q := 13) rfl ?_
      refine j_goto X (tgt := 17) dX3_isNoError_13 (by decide) ?_
      exact j_zret X rfl (Or.inr rfl) dX3_isNoError_17 (⟨by rw [tf_t (by omega)], rfl⟩) (by decide) (by decide)

set_option maxRecDepth 100000 in
set_option maxHeartbeats 4000000 in
theorem c_X3_known {l : Launch} (hlt : l.stackTraces = false) {D : va_G} {ca : Nat → ClassId} {base : Nat} {ad : Nat → Int → Nat} {n nc nm : Int} {S : St} {w : Wd} (hC : CW base ca ad n nc nm S w) (hI : IC n nc nm S) (z : Int) (hz : -2147483648 ≤ z ∧ z ≤ 2147483647) : CT l D ca base yX3_known cX3_known 3 (some (.object "Calibratory$Instrument")) 0 1 6 [.ref (ad 0 0), .int (iI (z))] w (fun v w' => (0 ≤ z ∧ z < n) ∧ v = some (va_rf (pt (ad 1) z)) ∧ w = w') (fun E w' => ¬ (0 ≤ z ∧ z < n) ∧ E = nIO ∧ w = w') := by
  obtain ⟨hn, hnc, hnm, e3, e4, e5, h6, h7, h8⟩ := hI.top
  refine CT.mk hlt (by decide +kernel) (by first | exact Nat.le_of_ble_eq_true rfl | simp [lg_sl, cat_rf, cat_i, cat_l, cat_r]) ?_
  intro p e s m args below meth c X htab
  rw [show lv_args 0 [.ref (ad 0 0), .int (iI (z))] = [(0, .ref (ad 0 0)), (1, .int (iI (z)))] from by first | rfl | simp [lv_args, cat_rf, cat_i, cat_l, cat_r]]
  refine j_iload_n X dX3_known_0 (q := 1) rfl 1 rfl ?_
  refine j_if_lt X (tgt := 13) dX3_known_1 (by decide) (q := 4) rfl (by omega) (fun c_1 => ?_) (fun c_1 => ?_)
  · skip
    exact j_throw X htab ts_72_74 dX3_known_13 dX3_known_16 dX3_known_17 dX3_known_19 dX3_known_22 (by decide) (by decide) (by decide) (by decide) (⟨by (try split at *) <;> omega, rfl, rfl⟩) (by decide) (by decide)
  · skip
    refine j_iload_n X dX3_known_4 (q := 5) rfl 1 rfl ?_
    refine j_aload_n X dX3_known_5 (q := 6) rfl 0 rfl ?_
    refine j_get X (v := .ref (ad 0 1)) fl_X3_11 hC.cal rfl dX3_known_6 (q := 9) rfl ?_
    refine j_alen X (t := 2) (N := 12) rfl hC.told rfl dX3_known_9 (q := 10) rfl ?_
    refine j_icmp_lt X (tgt := 23) dX3_known_10 (by decide) (q := 13) rfl (by omega) (by omega) (fun c_10 => ?_) (fun c_10 => ?_)
    · skip
      refine j_aload_n X dX3_known_23 (q := 24) rfl 0 rfl ?_
      refine j_get X (v := .ref (ad 0 1)) fl_X3_11 hC.cal rfl dX3_known_24 (q := 27) rfl ?_
      refine j_iload_n X dX3_known_27 (q := 28) rfl 1 rfl ?_
      refine j_aald X (t := 2) (i := z) rfl hC.told (by omega) (by decide) dX3_known_28 (q := 29) rfl ?_
      rw [rw_pt (by omega)]
      refine j_astoreq_n X (i := 2) dX3_known_29 rfl (by decide) (q := 30) rfl (lv' := [(2, va_rf (pt (ad 1) (if z < S 3 0 then z else -1))), (0, .ref (ad 0 0)), (1, .int (iI (z)))]) (by first | rfl | simp [cat_rf, cat_i, cat_l, cat_r]) ?_
      refine j_aloadq_n X dX3_known_30 (q := 31) rfl 0 rfl ?_
      refine j_ifnonnullp X (tgt := 44) dX3_known_31 (by decide) (q := 34) rfl (fun c_31 => ?_) (fun c_31 => ?_)
      · skip
        refine j_aloadq_n X dX3_known_44 (q := 45) rfl 0 rfl ?_
        exact j_aret X rfl dX3_known_45 (⟨by split at * <;> omega, by rw [if_pos (by split at * <;> omega)], rfl⟩) (by decide) (by decide)
      · skip
        exact j_throw X htab ts_72_74 dX3_known_34 dX3_known_37 dX3_known_38 dX3_known_40 dX3_known_43 (by decide) (by decide) (by decide) (by decide) (⟨by (try split at *) <;> omega, rfl, rfl⟩) (by decide) (by decide)
    · skip
      exact j_throw X htab ts_72_74 dX3_known_13 dX3_known_16 dX3_known_17 dX3_known_19 dX3_known_22 (by decide) (by decide) (by decide) (by decide) (⟨by (try split at *) <;> omega, rfl, rfl⟩) (by decide) (by decide)

set_option maxRecDepth 100000 in
set_option maxHeartbeats 4000000 in
theorem c_X3_knownOrNone {l : Launch} (hlt : l.stackTraces = false) {D : va_G} {ca : Nat → ClassId} {base : Nat} {ad : Nat → Int → Nat} {n nc nm : Int} {S : St} {w : Wd} (hC : CW base ca ad n nc nm S w) (hI : IC n nc nm S) (z : Int) (hz : -2147483648 ≤ z ∧ z ≤ 2147483647) : CT l D ca base yX3_knownOrNone cX3_knownOrNone 2 (some (.object "Calibratory$Instrument")) 1 1 6 [.ref (ad 0 0), .int (iI (z))] w (fun v w' => (z = -1 ∨ (0 ≤ z ∧ z < n)) ∧ v = some (va_rf (pt (ad 1) z)) ∧ w = w') (fun E w' => ¬ (z = -1 ∨ (0 ≤ z ∧ z < n)) ∧ E = nIO ∧ w = w') := by
  obtain ⟨hn, hnc, hnm, e3, e4, e5, h6, h7, h8⟩ := hI.top
  refine CT.mk hlt (by decide +kernel) (by first | exact Nat.le_of_ble_eq_true rfl | simp [lg_sl, cat_rf, cat_i, cat_l, cat_r]) ?_
  intro p e s m args below meth c X htab
  rw [show lv_args 0 [.ref (ad 0 0), .int (iI (z))] = [(0, .ref (ad 0 0)), (1, .int (iI (z)))] from by first | rfl | simp [lv_args, cat_rf, cat_i, cat_l, cat_r]]
  refine j_iload_n X dX3_knownOrNone_0 (q := 1) rfl 1 rfl ?_
  refine j_iconst X (a := -1) dX3_knownOrNone_1 (q := 2) rfl ?_
  refine j_icmp_ne X (tgt := 9) dX3_knownOrNone_2 (by decide) (q := 5) rfl (by omega) (by omega) (fun c_2 => ?_) (fun c_2 => ?_)
  · skip
    refine j_aload_n X dX3_knownOrNone_9 (q := 10) rfl 0 rfl ?_
    refine j_iload_n X dX3_knownOrNone_10 (q := 11) rfl 1 rfl ?_
    refine j_callV X (As := [.int (iI (z))]) (st := []) hC.cal rfl (c_X3_known hlt hC hI z hz) sv_X3_54 (by decide) rfl (by first | decide | simp [cat_rf, cat_i, cat_l, cat_r]) dX3_knownOrNone_11 (by decide) (fun E w' h => jx_out X htab ⟨by omega, h.2.1, h.2.2⟩ (by decide) (by decide)) ?_
    rintro v9 w9 ⟨k1, rfl, rfl⟩
    refine j_st (st := [va_rf (pt (ad 1) (z))]) ?_
    exact j_aret X rfl dX3_knownOrNone_14 (⟨by omega, rfl, rfl⟩) (by decide) (by decide)
  · skip
    refine j_null X dX3_knownOrNone_5 (q := 6) rfl ?_
    refine j_goto X (tgt := 14) dX3_knownOrNone_6 (by decide) ?_
    exact j_aret X rfl dX3_knownOrNone_14 (⟨by omega, by rw [pt_n (by omega)], rfl⟩) (by decide) (by decide)

set_option maxRecDepth 100000 in
set_option maxHeartbeats 4000000 in
theorem c_X3_numberOf {l : Launch} (hlt : l.stackTraces = false) {D : va_G} {ca : Nat → ClassId} {base : Nat} {ad : Nat → Int → Nat} {n nc nm : Int} {S : St} {w : Wd} (hC : CW base ca ad n nc nm S w) (hI : IC n nc nm S) (u : Int) (hu : -1 ≤ u ∧ u < n) : CT l D ca base yX3_numberOf cX3_numberOf 1 (some .int) 0 0 0 [va_rf (pt (ad 1) (u))] w (fun v w' => v = some (.int (iI (u))) ∧ w = w') (fun _ _ => False) := by
  obtain ⟨hn, hnc, hnm, e3, e4, e5, h6, h7, h8⟩ := hI.top
  refine CT.mk hlt (by decide +kernel) (by first | exact Nat.le_of_ble_eq_true rfl | simp [lg_sl, cat_rf, cat_i, cat_l, cat_r]) ?_
  intro p e s m args below meth c X htab
  rw [show lv_args 0 [va_rf (pt (ad 1) (u))] = [(0, va_rf (pt (ad 1) (u)))] from by first | rfl | simp [lv_args, cat_rf, cat_i, cat_l, cat_r]]
  refine j_aloadq_n X dX3_numberOf_0 (q := 1) rfl 0 rfl ?_
  refine j_ifnonnullp X (tgt := 8) dX3_numberOf_1 (by decide) (q := 4) rfl (fun c_1 => ?_) (fun c_1 => ?_)
  · skip
    obtain ⟨f_1_0, f_1_1, f_1_2, f_1_3, f_1_4, f_1_5, f_1_6, f_1_7, f_1_8⟩ := hI.ins c_1 (by omega)
    refine j_aloadq_n X dX3_numberOf_8 (q := 9) rfl 0 rfl ?_
    refine j_getp X (v := .int (iI (S 10 u))) fl_X3_77 c_1 (hC.ins c_1 (by omega)) rfl dX3_numberOf_9 (q := 12) rfl ?_
    exact j_iret X rfl dX3_numberOf_12 (⟨by congr 3 <;> omega, rfl⟩) (by decide) (by decide)
  · skip
    refine j_iconst X (a := -1) dX3_numberOf_4 (q := 5) rfl ?_
    refine j_goto X (tgt := 12) dX3_numberOf_5 (by decide) ?_
    exact j_iret X rfl dX3_numberOf_12 (⟨by congr 3 <;> omega, rfl⟩) (by decide) (by decide)

set_option maxRecDepth 100000 in
set_option maxHeartbeats 4000000 in
theorem c_X3_dueDay {l : Launch} (hlt : l.stackTraces = false) {D : va_G} {ca : Nat → ClassId} {base : Nat} {ad : Nat → Int → Nat} {n nc nm : Int} {S : St} {w : Wd} (hC : CW base ca ad n nc nm S w) (hI : IC n nc nm S) (u j : Int) (hu : 0 ≤ u ∧ u < n) (hj : 0 ≤ j ∧ j < nc) : CT l D ca base yX3_dueDay cX3_dueDay 2 (some .int) 0 0 0 [va_rf (pt (ad 1) (u)), va_rf (pt (ad 2) (j))] w (fun v w' => v = some (.int (iI (S 21 j + S 13 u))) ∧ w = w') (fun _ _ => False) := by
  obtain ⟨hn, hnc, hnm, e3, e4, e5, h6, h7, h8⟩ := hI.top
  refine CT.mk hlt (by decide +kernel) (by first | exact Nat.le_of_ble_eq_true rfl | simp [lg_sl, cat_rf, cat_i, cat_l, cat_r]) ?_
  intro p e s m args below meth c X htab
  rw [show lv_args 0 [va_rf (pt (ad 1) (u)), va_rf (pt (ad 2) (j))] = [(0, va_rf (pt (ad 1) (u))), (1, va_rf (pt (ad 2) (j)))] from by first | rfl | simp [lv_args, cat_rf, cat_i, cat_l, cat_r]]
  obtain ⟨f_2_0, f_2_1, f_2_2, f_2_3, f_2_4, f_2_5, f_2_6, f_2_7, f_2_8⟩ := hI.ins hu.1 hu.2
  obtain ⟨f_3_0, f_3_1, f_3_2, f_3_3, f_3_4, f_3_5, f_3_6, f_3_7, f_3_8, f_3_9⟩ := hI.kal hj.1 hj.2
  refine j_aloadq_n X dX3_dueDay_0 (q := 1) rfl 1 rfl ?_
  refine j_getp X (v := .int (iI (S 21 j))) fl_X3_149 hj.1 (hC.kal hj.1 hj.2) rfl dX3_dueDay_1 (q := 4) rfl ?_
  refine j_aloadq_n X dX3_dueDay_4 (q := 5) rfl 0 rfl ?_
  refine j_getp X (v := .int (iI (S 13 u))) fl_X3_146 hu.1 (hC.ins hu.1 hu.2) rfl dX3_dueDay_5 (q := 8) rfl ?_
  refine j_iadd X dX3_dueDay_8 (q := 9) rfl ?_
  exact j_iret X rfl dX3_dueDay_9 (⟨rfl, rfl⟩) (by decide) (by decide)
end
section
theorem ends_pos {ref : Int → Int} {k : Nat} {u : Int} (h : ends ref k u) (h0 : 0 ≤ u) : ∃ j, k = j + 1 ∧ ends ref j (ref u) := by
  cases k with
  | zero => exact absurd (show u < 0 from h) (by omega)
  | succ j => exact ⟨j, rfl, ends_st h h0⟩
theorem inCh_n {ref : Int → Int} {k : Nat} {u i : Int} (h : u < 0) : inCh ref k u i = 0 := by
  cases k with
  | zero => rfl
  | succ j => simp [inCh, h]
theorem inCh_e {ref : Int → Int} {k : Nat} {u i : Int} (h : 0 ≤ u) (e : u = i) : inCh ref (k + 1) u i = 1 := by
  rw [inCh, if_neg (by omega), if_pos e]
theorem inCh_s {ref : Int → Int} {k : Nat} {u i : Int} (h : 0 ≤ u) (e : u ≠ i) : inCh ref (k + 1) u i = inCh ref k (ref u) i := by
  rw [inCh, if_neg (by omega), if_neg e]
theorem fof_n {ref inF : Int → Int} {k : Nat} {u : Int} (h : u < 0) : fof ref inF k u = -1 := by
  cases k with
  | zero => rfl
  | succ j => simp [fof, h]
theorem fof_e {ref inF : Int → Int} {k : Nat} {u : Int} (h : 0 ≤ u) (e : inF u = 0) : fof ref inF (k + 1) u = u := by
  rw [fof, if_neg (by omega), if_pos e]
theorem fof_s {ref inF : Int → Int} {k : Nat} {u : Int} (h : 0 ≤ u) (e : inF u ≠ 0) : fof ref inF (k + 1) u = fof ref inF k (ref u) := by
  rw [fof, if_neg (by omega), if_neg e]
theorem fof_r {ref inF : Int → Int} {n : Int} (hr : ∀ i, 0 ≤ i → i < n → -1 ≤ ref i ∧ ref i < n) : ∀ (k : Nat) (u : Int), -1 ≤ u → u < n → 0 ≤ n → -1 ≤ fof ref inF k u ∧ fof ref inF k u < n
  | 0, _, _, _, h => by simp [fof]; omega
  | k + 1, u, h0, h1, h => by
    by_cases hu : u < 0
    · rw [fof_n hu]; omega
    · by_cases hf : inF u = 0
      · rw [fof_e (by omega) hf]; omega
      · rw [fof_s (by omega) hf]
        have := hr u (by omega) h1
        exact fof_r hr k _ this.1 this.2 h
theorem len_n {ref : Int → Int} {k : Nat} {u : Int} (h : u < 0) : len ref k u = 0 := by
  cases k with
  | zero => rfl
  | succ j => simp [len, h]
theorem len_s {ref : Int → Int} {k : Nat} {u : Int} (h : 0 ≤ u) : len ref (k + 1) u = 1 + len ref k (ref u) := by
  rw [len, if_neg (by omega)]
theorem len_b (ref : Int → Int) : ∀ (k : Nat) (u : Int), 0 ≤ len ref k u ∧ len ref k u ≤ k
  | 0, _ => by simp [len]
  | k + 1, u => by
    by_cases hu : u < 0
    · rw [len_n hu]; omega
    · rw [len_s (by omega)]
      have := len_b ref k (ref u)
      omega
theorem rst_n {S : St} {f mom : Int} {k : Nat} {u : Int} (h : u < 0) : rst S f mom k u = 0 := by
  cases k with
  | zero => rfl
  | succ j => simp [rst, h]
theorem rst_e {S : St} {f mom : Int} {k : Nat} {u : Int} (h : 0 ≤ u) (e : u = f) : rst S f mom (k + 1) u = 1 := by
  rw [rst, if_neg (by omega), if_pos e]
theorem rst_o {S : St} {f mom : Int} {k : Nat} {u : Int} (h : 0 ≤ u) (e : u ≠ f) (z : S 27 u < mom) : rst S f mom (k + 1) u = 0 := by
  rw [rst, if_neg (by omega), if_neg e, if_pos z]
theorem rst_s {S : St} {f mom : Int} {k : Nat} {u : Int} (h : 0 ≤ u) (e : u ≠ f) (z : mom ≤ S 27 u) : rst S f mom (k + 1) u = rst S f mom k (S 24 u) := by
  rw [rst, if_neg (by omega), if_neg e, if_neg (by omega)]
theorem pt_eq {ak : Int → Nat} {n u v : Int} (inj : ∀ i j, 0 ≤ i → i < n → 0 ≤ j → j < n → ak i = ak j → i = j) (hu : -1 ≤ u ∧ u < n) (hv : -1 ≤ v ∧ v < n) : pt ak u = pt ak v ↔ u = v := by
  constructor
  · intro h
    by_cases h1 : u < 0
    · rw [pt_n h1] at h
      have := pt_none h.symm
      omega
    · by_cases h2 : v < 0
      · rw [pt_n h2] at h
        have := pt_none h
        omega
      · rw [pt_s (by omega), pt_s (by omega)] at h
        exact inj _ _ (by omega) hu.2 (by omega) hv.2 (Option.some.inj h)
  · intro h; rw [h]
def iabs (z : Int) : Int := if z < 0 then -z else z
theorem iabs_n {z : Int} (h : z < 0) : iabs z = -z := if_pos h
theorem iabs_p {z : Int} (h : 0 ≤ z) : iabs z = z := if_neg (by omega)
theorem xor_sign {x y : Int} (hx : -9223372036854775808 ≤ x ∧ x ≤ 9223372036854775807) (hy : 0 ≤ y ∧ y ≤ 9223372036854775807) : ∃ z : Int, (-9223372036854775808 ≤ z ∧ z ≤ 9223372036854775807) ∧ iL x ^^^ iL y = iL z ∧ (z < 0 ↔ x < 0) := by
  refine ⟨(iL x ^^^ iL y).toInt, ?_, (Int64.ofInt_toInt _).symm, ?_⟩
  · have h1 := Int64.le_toInt (iL x ^^^ iL y)
    have h2 := Int64.toInt_lt (iL x ^^^ iL y)
    omega
  · have e1 : (iL x ^^^ iL y).toInt < 0 ↔ (iL x ^^^ iL y).toBitVec.msb = true := by
      rw [← Int64.toInt_toBitVec, BitVec.msb_eq_toInt, decide_eq_true_iff]
    have e2 : x < 0 ↔ (iL x).toBitVec.msb = true := by
      rw [BitVec.msb_eq_toInt, decide_eq_true_iff, Int64.toInt_toBitVec, iL_T hx]
    have e3 : (iL y).toBitVec.msb = false := by
      rw [BitVec.msb_eq_toInt, decide_eq_false_iff_not, Int64.toInt_toBitVec, iL_T (by omega)]
      omega
    rw [e1, e2, Int64.toBitVec_xor, BitVec.msb_xor, e3, Bool.xor_false]
theorem fdiv_lem {x y : Int} (hy : 1 ≤ y) : x / y = if x < 0 ∧ x.tdiv y * y ≠ x then x.tdiv y - 1 else x.tdiv y := by
  have h1 := Int.mul_tdiv_add_tmod x y
  have h2 := Int.mul_ediv_add_emod x y
  have h3 := Int.emod_nonneg x (show y ≠ 0 by omega)
  have h4 := Int.emod_lt_of_pos x (show 0 < y by omega)
  by_cases hx : x < 0
  · have h5 : x.tmod y ≤ 0 := (by have := Int.tmod_nonneg (a := -x) y (by omega); rw [Int.neg_tmod] at this; omega)
    have h6 : -y < x.tmod y := (by have := Int.tmod_lt_of_pos (-x) (show 0 < y by omega); rw [Int.neg_tmod] at this; omega)
    by_cases hz : x.tdiv y * y = x
    · rw [if_neg (fun z => z.2 hz)]
      have : x.tmod y = 0 := by rw [Int.mul_comm] at hz; omega
      have hd : y * (x / y - x.tdiv y) = -(x % y) := by rw [Int.mul_sub]; omega
      have : x / y - x.tdiv y = 0 := by
        rcases Int.lt_trichotomy (x / y - x.tdiv y) 0 with h | h | h
        · have := Int.mul_le_mul_of_nonneg_left (show x / y - x.tdiv y ≤ -1 by omega) (show 0 ≤ y by omega)
          omega
        · exact h
        · have := Int.mul_le_mul_of_nonneg_left (show 1 ≤ x / y - x.tdiv y by omega) (show 0 ≤ y by omega)
          omega
      omega
    · rw [if_pos ⟨hx, hz⟩]
      have hne : x.tmod y ≠ 0 := fun z => hz (by rw [Int.mul_comm]; omega)
      have hd : y * (x / y - x.tdiv y) = x.tmod y - x % y := by rw [Int.mul_sub]; omega
      have : x / y - x.tdiv y = -1 := by
        rcases Int.lt_trichotomy (x / y - x.tdiv y) (-1) with h | h | h
        · have := Int.mul_le_mul_of_nonneg_left (show x / y - x.tdiv y ≤ -2 by omega) (show 0 ≤ y by omega)
          omega
        · exact h
        · have := Int.mul_le_mul_of_nonneg_left (show 0 ≤ x / y - x.tdiv y by omega) (show 0 ≤ y by omega)
          omega
      omega
  · rw [if_neg (fun z => hx z.1), Int.tdiv_eq_ediv_of_nonneg (by omega)]
set_option maxRecDepth 100000 in
set_option maxHeartbeats 4000000 in
theorem c_J9_abs_0f7a4 {l : Launch} (hlt : l.stackTraces = false) {D : va_G} {ca : Nat → ClassId} {base : Nat} {w : Wd} (z : Int) (hz : -2147483647 ≤ z ∧ z ≤ 2147483647) : CT l D ca base yJ9_abs_0f7a4 cJ9_abs_0f7a4 1 (some .int) 0 0 0 [.int (iI (z))] w (fun v w' => v = some (.int (iI (iabs z))) ∧ w = w') (fun _ _ => False) := by
  refine CT.mk hlt (by decide +kernel) (by first | exact Nat.le_of_ble_eq_true rfl | simp [lg_sl, cat_rf, cat_i, cat_l, cat_r]) ?_
  intro p e s m args below meth c X htab
  rw [show lv_args 0 [.int (iI (z))] = [(0, .int (iI (z)))] from by first | rfl | simp [lv_args, cat_rf, cat_i, cat_l, cat_r]]
  refine j_iload_n X dJ9_abs_0f7a4_0 (q := 1) rfl 0 rfl ?_
  refine j_if_ge X (tgt := 9) dJ9_abs_0f7a4_1 (by decide) (q := 4) rfl (by omega) (fun c_1 => ?_) (fun c_1 => ?_)
  · skip
    refine j_iload_n X dJ9_abs_0f7a4_9 (q := 10) rfl 0 rfl ?_
    exact j_iret X rfl dJ9_abs_0f7a4_10 (⟨by rw [iabs_p (by omega)], rfl⟩) (by decide) (by decide)
  · skip
    refine j_iload_n X dJ9_abs_0f7a4_4 (q := 5) rfl 0 rfl ?_
    refine j_ineg X dJ9_abs_0f7a4_5 (q := 6) rfl ?_
    refine j_goto X (tgt := 10) dJ9_abs_0f7a4_6 (by decide) ?_
    exact j_iret X rfl dJ9_abs_0f7a4_10 (⟨by rw [iabs_n (by omega)], rfl⟩) (by decide) (by decide)

set_option maxRecDepth 100000 in
set_option maxHeartbeats 4000000 in
theorem c_J9_abs_067f4 {l : Launch} (hlt : l.stackTraces = false) {D : va_G} {ca : Nat → ClassId} {base : Nat} {w : Wd} (z : Int) (hz : -9223372036854775807 ≤ z ∧ z ≤ 9223372036854775807) : CT l D ca base yJ9_abs_067f4 cJ9_abs_067f4 2 (some .long) 0 0 0 [.long (iL (z))] w (fun v w' => v = some (.long (iL (iabs z))) ∧ w = w') (fun _ _ => False) := by
  refine CT.mk hlt (by decide +kernel) (by first | exact Nat.le_of_ble_eq_true rfl | simp [lg_sl, cat_rf, cat_i, cat_l, cat_r]) ?_
  intro p e s m args below meth c X htab
  rw [show lv_args 0 [.long (iL (z))] = [(0, .long (iL (z)))] from by first | rfl | simp [lv_args, cat_rf, cat_i, cat_l, cat_r]]
  refine j_lload_n X dJ9_abs_067f4_0 (q := 1) rfl 0 rfl ?_
  refine j_lconst X (a := 0) (by decide +kernel) dJ9_abs_067f4_1 (q := 2) rfl ?_
  refine j_lcmp X (by omega) (by omega) dJ9_abs_067f4_2 (q := 3) rfl ?_
  refine j_if_ge X (tgt := 11) dJ9_abs_067f4_3 (by decide) (q := 6) rfl (cmpI_r _ _) (fun c_3 => ?_) (fun c_3 => ?_)
  · skip
    refine j_lload_n X dJ9_abs_067f4_11 (q := 12) rfl 0 rfl ?_
    exact j_lret X rfl dJ9_abs_067f4_12 (⟨by rw [iabs_p (cmpI_ge.mp c_3)], rfl⟩) (by decide) (by decide)
  · skip
    refine j_lload_n X dJ9_abs_067f4_6 (q := 7) rfl 0 rfl ?_
    refine j_lneg X dJ9_abs_067f4_7 (q := 8) rfl ?_
    refine j_goto X (tgt := 12) dJ9_abs_067f4_8 (by decide) ?_
    exact j_lret X rfl dJ9_abs_067f4_12 (⟨by rw [iabs_n (cmpI_lt.mp c_3)], rfl⟩) (by decide) (by decide)

set_option maxRecDepth 100000 in
set_option maxHeartbeats 4000000 in
theorem c_J9_max_7cf53 {l : Launch} (hlt : l.stackTraces = false) {D : va_G} {ca : Nat → ClassId} {base : Nat} {w : Wd} (x y : Int) (hx : -2147483648 ≤ x ∧ x ≤ 2147483647) (hy : -2147483648 ≤ y ∧ y ≤ 2147483647) : CT l D ca base yJ9_max_7cf53 cJ9_max_7cf53 2 (some .int) 0 0 0 [.int (iI (x)), .int (iI (y))] w (fun v w' => v = some (.int (iI (if x < y then y else x))) ∧ w = w') (fun _ _ => False) := by
  refine CT.mk hlt (by decide +kernel) (by first | exact Nat.le_of_ble_eq_true rfl | simp [lg_sl, cat_rf, cat_i, cat_l, cat_r]) ?_
  intro p e s m args below meth c X htab
  rw [show lv_args 0 [.int (iI (x)), .int (iI (y))] = [(0, .int (iI (x))), (1, .int (iI (y)))] from by first | rfl | simp [lv_args, cat_rf, cat_i, cat_l, cat_r]]
  refine j_iload_n X dJ9_max_7cf53_0 (q := 1) rfl 0 rfl ?_
  refine j_iload_n X dJ9_max_7cf53_1 (q := 2) rfl 1 rfl ?_
  refine j_icmp_lt X (tgt := 9) dJ9_max_7cf53_2 (by decide) (q := 5) rfl (by omega) (by omega) (fun c_2 => ?_) (fun c_2 => ?_)
  · skip
    refine j_iload_n X dJ9_max_7cf53_9 (q := 10) rfl 1 rfl ?_
    exact j_iret X rfl dJ9_max_7cf53_10 (⟨by rw [if_pos (by omega)], rfl⟩) (by decide) (by decide)
  · skip
    refine j_iload_n X dJ9_max_7cf53_5 (q := 6) rfl 0 rfl ?_
    refine j_goto X (tgt := 10) dJ9_max_7cf53_6 (by decide) ?_
    exact j_iret X rfl dJ9_max_7cf53_10 (⟨by rw [if_neg (by omega)], rfl⟩) (by decide) (by decide)

set_option maxRecDepth 100000 in
set_option maxHeartbeats 4000000 in
theorem c_J9_min_7cf53 {l : Launch} (hlt : l.stackTraces = false) {D : va_G} {ca : Nat → ClassId} {base : Nat} {w : Wd} (x y : Int) (hx : -2147483648 ≤ x ∧ x ≤ 2147483647) (hy : -2147483648 ≤ y ∧ y ≤ 2147483647) : CT l D ca base yJ9_min_7cf53 cJ9_min_7cf53 2 (some .int) 0 0 0 [.int (iI (x)), .int (iI (y))] w (fun v w' => v = some (.int (iI (if y < x then y else x))) ∧ w = w') (fun _ _ => False) := by
  refine CT.mk hlt (by decide +kernel) (by first | exact Nat.le_of_ble_eq_true rfl | simp [lg_sl, cat_rf, cat_i, cat_l, cat_r]) ?_
  intro p e s m args below meth c X htab
  rw [show lv_args 0 [.int (iI (x)), .int (iI (y))] = [(0, .int (iI (x))), (1, .int (iI (y)))] from by first | rfl | simp [lv_args, cat_rf, cat_i, cat_l, cat_r]]
  refine j_iload_n X dJ9_min_7cf53_0 (q := 1) rfl 0 rfl ?_
  refine j_iload_n X dJ9_min_7cf53_1 (q := 2) rfl 1 rfl ?_
  refine j_icmp_gt X (tgt := 9) dJ9_min_7cf53_2 (by decide) (q := 5) rfl (by omega) (by omega) (fun c_2 => ?_) (fun c_2 => ?_)
  · skip
    refine j_iload_n X dJ9_min_7cf53_9 (q := 10) rfl 1 rfl ?_
    exact j_iret X rfl dJ9_min_7cf53_10 (⟨by rw [if_pos (by omega)], rfl⟩) (by decide) (by decide)
  · skip
    refine j_iload_n X dJ9_min_7cf53_5 (q := 6) rfl 0 rfl ?_
    refine j_goto X (tgt := 10) dJ9_min_7cf53_6 (by decide) ?_
    exact j_iret X rfl dJ9_min_7cf53_10 (⟨by rw [if_neg (by omega)], rfl⟩) (by decide) (by decide)

set_option maxRecDepth 100000 in
set_option maxHeartbeats 4000000 in
theorem c_J9_floorDiv_f86c9 {l : Launch} (hlt : l.stackTraces = false) {D : va_G} {ca : Nat → ClassId} {base : Nat} {w : Wd} (x y : Int) (hx : -9000000000000000000 ≤ x ∧ x ≤ 9000000000000000000) (hy : 1 ≤ y ∧ y ≤ 9000000000000000000) : CT l D ca base yJ9_floorDiv_f86c9 cJ9_floorDiv_f86c9 6 (some .long) 0 0 0 [.long (iL (x)), .long (iL (y))] w (fun v w' => v = some (.long (iL (x / y))) ∧ w = w') (fun _ _ => False) := by
  refine CT.mk hlt (by decide +kernel) (by first | exact Nat.le_of_ble_eq_true rfl | simp [lg_sl, cat_rf, cat_i, cat_l, cat_r]) ?_
  intro p e s m args below meth c X htab
  rw [show lv_args 0 [.long (iL (x)), .long (iL (y))] = [(0, .long (iL (x))), (2, .long (iL (y)))] from by first | rfl | simp [lv_args, cat_rf, cat_i, cat_l, cat_r]]
  obtain ⟨z, hz, ez, sz⟩ := xor_sign (x := x) (y := y) (by omega) (by omega)
  have hm := Int.mul_tdiv_add_tmod x y
  have hml : Int.natAbs (x.tdiv y * y) ≤ Int.natAbs x := by rw [Int.natAbs_mul, Int.natAbs_tdiv]; exact Nat.div_mul_le_self _ _
  have hdl : Int.natAbs (x.tdiv y) ≤ Int.natAbs x := by rw [Int.natAbs_tdiv]; exact Nat.div_le_self _ _
  have hfd := fdiv_lem (x := x) hy.1
  refine j_lload_n X dJ9_floorDiv_f86c9_0 (q := 1) rfl 0 rfl ?_
  refine j_lload_n X dJ9_floorDiv_f86c9_1 (q := 2) rfl 1 rfl ?_
  refine j_ldiv X (by omega) (by omega) dJ9_floorDiv_f86c9_2 (q := 3) rfl ?_
  refine j_lstore X (i := 4) dJ9_floorDiv_f86c9_3 (by decide) (q := 5) rfl (lv' := [(4, .long (iL (Int.tdiv (x) (y)))), (0, .long (iL (x))), (2, .long (iL (y)))]) (by first | rfl | simp [cat_rf, cat_i, cat_l, cat_r]) ?_
  refine j_lload_n X dJ9_floorDiv_f86c9_5 (q := 6) rfl 1 rfl ?_
  refine j_lload_n X dJ9_floorDiv_f86c9_6 (q := 7) rfl 2 rfl ?_
  refine j_lxor X dJ9_floorDiv_f86c9_7 (q := 8) rfl ?_
  rw [ez]
  refine j_lconst X (a := 0) (by decide +kernel) dJ9_floorDiv_f86c9_8 (q := 9) rfl ?_
  refine j_lcmp X (by omega) (by omega) dJ9_floorDiv_f86c9_9 (q := 10) rfl ?_
  refine j_if_ge X (tgt := 27) dJ9_floorDiv_f86c9_10 (by decide) (q := 13) rfl (cmpI_r _ _) (fun c_10 => ?_) (fun c_10 => ?_)
  · skip
    refine j_lload X dJ9_floorDiv_f86c9_27 (q := 29) rfl 0 rfl ?_
    exact j_lret X rfl dJ9_floorDiv_f86c9_29 (⟨by rw [hfd, if_neg (fun h => absurd (sz.mpr h.1) (Int.not_lt.mpr (cmpI_ge.mp c_10)))], rfl⟩) (by decide) (by decide)
  · skip
    refine j_lload X dJ9_floorDiv_f86c9_13 (q := 15) rfl 0 rfl ?_
    refine j_lload_n X dJ9_floorDiv_f86c9_15 (q := 16) rfl 2 rfl ?_
    refine j_lmul X dJ9_floorDiv_f86c9_16 (q := 17) rfl ?_
    refine j_lload_n X dJ9_floorDiv_f86c9_17 (q := 18) rfl 1 rfl ?_
    refine j_lcmp X (by omega) (by omega) dJ9_floorDiv_f86c9_18 (q := 19) rfl ?_
    refine j_if_eq X (tgt := 27) dJ9_floorDiv_f86c9_19 (by decide) (q := 22) rfl (cmpI_r _ _) (fun c_19 => ?_) (fun c_19 => ?_)
    · skip
      refine j_lload X dJ9_floorDiv_f86c9_27 (q := 29) rfl 0 rfl ?_
      exact j_lret X rfl dJ9_floorDiv_f86c9_29 (⟨by rw [hfd, if_neg (fun h => h.2 (cmpI_0.mp c_19))], rfl⟩) (by decide) (by decide)
    · skip
      refine j_lload X dJ9_floorDiv_f86c9_22 (q := 24) rfl 0 rfl ?_
      refine j_lconst X (a := 1) (by decide +kernel) dJ9_floorDiv_f86c9_24 (q := 25) rfl ?_
      refine j_lsub X dJ9_floorDiv_f86c9_25 (q := 26) rfl ?_
      exact j_lret X rfl dJ9_floorDiv_f86c9_26 (⟨by rw [hfd, if_pos ⟨sz.mp (cmpI_lt.mp c_10), fun h => c_19 (cmpI_0.mpr h)⟩], rfl⟩) (by decide) (by decide)

set_option maxRecDepth 100000 in
set_option maxHeartbeats 4000000 in
theorem c_X3_isInChain {l : Launch} (hlt : l.stackTraces = false) {D : va_G} {ca : Nat → ClassId} {base : Nat} {ad : Nat → Int → Nat} {n nc nm : Int} {S : St} {w : Wd} (hC : CW base ca ad n nc nm S w) (hI : IC n nc nm S) (i u : Int) (hi : 0 ≤ i ∧ i < n) (hu : -1 ≤ u ∧ u < n) : CT l D ca base yX3_isInChain cX3_isInChain 3 (some .boolean) 0 0 0 [va_rf (pt (ad 1) (i)), va_rf (pt (ad 1) (u))] w (fun v w' => v = some (.int (iI (inCh (S 14) 12 u i))) ∧ w = w') (fun _ _ => False) := by
  obtain ⟨hn, hnc, hnm, e3, e4, e5, h6, h7, h8⟩ := hI.top
  refine CT.mk hlt (by decide +kernel) (by first | exact Nat.le_of_ble_eq_true rfl | simp [lg_sl, cat_rf, cat_i, cat_l, cat_r]) ?_
  intro p e s m args below meth c X htab
  rw [show lv_args 0 [va_rf (pt (ad 1) (i)), va_rf (pt (ad 1) (u))] = [(0, va_rf (pt (ad 1) (i))), (1, va_rf (pt (ad 1) (u)))] from by first | rfl | simp [lv_args, cat_rf, cat_i, cat_l, cat_r]]
  refine j_aloadq_n X dX3_isInChain_0 (q := 1) rfl 1 rfl ?_
  refine j_astoreq_n X (i := 2) dX3_isInChain_1 rfl (by decide) (q := 2) rfl (lv' := [(2, va_rf (pt (ad 1) (u))), (0, va_rf (pt (ad 1) (i))), (1, va_rf (pt (ad 1) (u)))]) (by first | rfl | simp [cat_rf, cat_i, cat_l, cat_r]) ?_
  have loop : ∀ (kk : Nat) (a : Int), (-1 ≤ a ∧ a < n) → ends (S 14) kk a → inCh (S 14) 12 u i = inCh (S 14) kk a i → J p l e (Rm 0 0 0) s m args below meth c (vx_MQ below (Qn D base (fun v w' => v = some (.int (iI (inCh (S 14) 12 u i))) ∧ w = w')) (Xn D base (fun _ _ => False)) args s 0 0 (fun q => base ≤ q)) D base 3 0 0 2 [(0, va_rf (pt (ad 1) (i))), (1, va_rf (pt (ad 1) (u))), (2, va_rf (pt (ad 1) (a)))] [] w := by
    intro kk
    induction kk using Nat.strongRecOn with
    | ind kk ih =>
      intro a ha hk hv
      refine j_aloadq_n X dX3_isInChain_2 (q := 3) rfl 2 rfl ?_
      refine j_ifnullp X (tgt := 21) dX3_isInChain_3 (by decide) (q := 6) rfl (fun c_3 => ?_) (fun c_3 => ?_)
      · skip
        refine j_iconst X (a := 0) dX3_isInChain_21 (q := 22) rfl ?_
        exact j_zret X rfl (Or.inl rfl) dX3_isInChain_22 (⟨by rw [hv, inCh_n c_3], rfl⟩) (by decide) (by decide)
      · skip
        obtain ⟨f_1_0, f_1_1, f_1_2, f_1_3, f_1_4, f_1_5, f_1_6, f_1_7, f_1_8⟩ := hI.ins c_3 ha.2
        obtain ⟨j9, rfl, hk9⟩ := ends_pos hk c_3
        refine j_aloadq_n X dX3_isInChain_6 (q := 7) rfl 2 rfl ?_
        refine j_aloadq_n X dX3_isInChain_7 (q := 8) rfl 0 rfl ?_
        refine j_acmp_ne X (tgt := 13) dX3_isInChain_8 (by decide) (q := 11) rfl (fun c_8 => ?_) (fun c_8 => ?_)
        · skip
          refine j_aloadq_n X dX3_isInChain_13 (q := 14) rfl 2 rfl ?_
          refine j_getp X (v := va_rf (pt (ad 1) (S 14 a))) fl_X3_50 c_3 (hC.ins c_3 ha.2) rfl dX3_isInChain_14 (q := 17) rfl ?_
          refine j_astoreq_n X (i := 2) dX3_isInChain_17 rfl (by decide) (q := 18) rfl (lv' := [(2, va_rf (pt (ad 1) (S 14 a))), (0, va_rf (pt (ad 1) (i))), (1, va_rf (pt (ad 1) (u)))]) (by first | rfl | simp [cat_rf, cat_i, cat_l, cat_r]) ?_
          refine j_goto X (tgt := 2) dX3_isInChain_18 (by decide) ?_
          exact j_lv (ih j9 (by omega) (S 14 a) (by omega) hk9 (hv.trans (inCh_s c_3 (fun z => c_8 (by rw [z]))))) [1, 2, 0] rfl
        · skip
          refine j_iconst X (a := 1) dX3_isInChain_11 (q := 12) rfl ?_
          exact j_zret X rfl (Or.inr rfl) dX3_isInChain_12 (⟨by rw [hv, inCh_e c_3 ((pt_eq (fun _ _ => hC.inj1) (by omega) (by omega)).mp c_8)], rfl⟩) (by decide) (by decide)
  exact j_lv (loop 12 u hu (hI.ends hu.1 hu.2) rfl) [1, 2, 0] rfl
end
section
theorem inF_b (S : St) (i : Int) : 0 ≤ inF S i ∧ inF S i ≤ 1 := tf_b _
set_option maxRecDepth 100000 in
set_option maxHeartbeats 4000000 in
theorem c_X3_isInForce {l : Launch} (hlt : l.stackTraces = false) {D : va_G} {ca : Nat → ClassId} {base : Nat} {ad : Nat → Int → Nat} {n nc nm : Int} {S : St} {w : Wd} (hC : CW base ca ad n nc nm S w) (hI : IC n nc nm S) (u : Int) (hu : 0 ≤ u ∧ u < n) : CT l D ca base yX3_isInForce cX3_isInForce 2 (some .boolean) 1 0 0 [.ref (ad 0 0), va_rf (pt (ad 1) (u))] w (fun v w' => v = some (.int (iI (inF S u))) ∧ w = w') (fun _ _ => False) := by
  obtain ⟨hn, hnc, hnm, e3, e4, e5, h6, h7, h8⟩ := hI.top
  refine CT.mk hlt (by decide +kernel) (by first | exact Nat.le_of_ble_eq_true rfl | simp [lg_sl, cat_rf, cat_i, cat_l, cat_r]) ?_
  intro p e s m args below meth c X htab
  rw [show lv_args 0 [.ref (ad 0 0), va_rf (pt (ad 1) (u))] = [(0, .ref (ad 0 0)), (1, va_rf (pt (ad 1) (u)))] from by first | rfl | simp [lv_args, cat_rf, cat_i, cat_l, cat_r]]
  obtain ⟨f_1_0, f_1_1, f_1_2, f_1_3, f_1_4, f_1_5, f_1_6, f_1_7, f_1_8⟩ := hI.ins hu.1 hu.2
  refine j_aloadq_n X dX3_isInForce_0 (q := 1) rfl 1 rfl ?_
  refine j_getp X (v := va_rf (pt (ad 2) (S 15 u))) fl_X3_95 hu.1 (hC.ins hu.1 hu.2) rfl dX3_isInForce_1 (q := 4) rfl ?_
  refine j_ifnullp X (tgt := 36) dX3_isInForce_4 (by decide) (q := 7) rfl (fun c_4 => ?_) (fun c_4 => ?_)
  · skip
    refine j_iconst X (a := 0) dX3_isInForce_36 (q := 37) rfl ?_
    exact j_zret X rfl (Or.inl rfl) dX3_isInForce_37 (⟨by rw [inF, tf_f (by omega)], rfl⟩) (by decide) (by decide)
  · skip
    obtain ⟨f_2_0, f_2_1, f_2_2, f_2_3, f_2_4, f_2_5, f_2_6, f_2_7, f_2_8, f_2_9⟩ := hI.kal c_4 (by omega)
    refine j_aload_n X dX3_isInForce_7 (q := 8) rfl 0 rfl ?_
    refine j_get X (v := .int (iI (S 7 0))) fl_X3_69 hC.cal rfl dX3_isInForce_8 (q := 11) rfl ?_
    refine j_aloadq_n X dX3_isInForce_11 (q := 12) rfl 1 rfl ?_
    refine j_aloadq_n X dX3_isInForce_12 (q := 13) rfl 1 rfl ?_
    refine j_getp X (v := va_rf (pt (ad 2) (S 15 u))) fl_X3_95 hu.1 (hC.ins hu.1 hu.2) rfl dX3_isInForce_13 (q := 16) rfl ?_
    refine j_callS X (As := [va_rf (pt (ad 1) (u)), va_rf (pt (ad 2) (S 15 u))]) (st := [.int (iI (S 7 0))])  (c_X3_dueDay hlt hC hI u (S 15 u) hu ⟨c_4, by omega⟩) ss_X3_182 (by decide) rfl (by first | decide | simp [cat_rf, cat_i, cat_l, cat_r]) dX3_isInForce_16 (by decide) (fun _ _ h => h.elim) ?_
    rintro v9 w9 ⟨rfl, rfl⟩
    refine j_st (st := [.int (iI (S 21 (S 15 u) + S 13 u)), .int (iI (S 7 0))]) ?_
    refine j_icmp_gt X (tgt := 36) dX3_isInForce_19 (by decide) (q := 22) rfl (by omega) (by omega) (fun c_19 => ?_) (fun c_19 => ?_)
    · skip
      refine j_iconst X (a := 0) dX3_isInForce_36 (q := 37) rfl ?_
      exact j_zret X rfl (Or.inl rfl) dX3_isInForce_37 (⟨by rw [inF, tf_f (by omega)], rfl⟩) (by decide) (by decide)
    · skip
      refine j_aloadq_n X dX3_isInForce_22 (q := 23) rfl 1 rfl ?_
      refine j_getp X (v := va_rf (pt (ad 2) (S 15 u))) fl_X3_95 hu.1 (hC.ins hu.1 hu.2) rfl dX3_isInForce_23 (q := 26) rfl ?_
      refine j_getp X (v := .int (iI (S 26 (S 15 u)))) fl_X3_186 c_4 (hC.kal c_4 (by omega)) rfl dX3_isInForce_26 (q := 29) rfl ?_
      refine j_if_ne X (tgt := 36) dX3_isInForce_29 (by decide) (q := 32) rfl (by omega) (fun c_29 => ?_) (fun c_29 => ?_)
      · skip
        refine j_iconst X (a := 0) dX3_isInForce_36 (q := 37) rfl ?_
        exact j_zret X rfl (Or.inl rfl) dX3_isInForce_37 (⟨by rw [inF, tf_f (by omega)], rfl⟩) (by decide) (by decide)
      · skip
        refine j_iconst X (a := 1) dX3_isInForce_32 (q := 33) rfl ?_
        refine j_goto X (tgt := 37) dX3_isInForce_33 (by decide) ?_
        exact j_zret X rfl (Or.inr rfl) dX3_isInForce_37 (⟨by rw [inF, tf_t (by omega)], rfl⟩) (by decide) (by decide)

set_option maxRecDepth 100000 in
set_option maxHeartbeats 4000000 in
theorem c_X3_firstOutOfForce {l : Launch} (hlt : l.stackTraces = false) {D : va_G} {ca : Nat → ClassId} {base : Nat} {ad : Nat → Int → Nat} {n nc nm : Int} {S : St} {w : Wd} (hC : CW base ca ad n nc nm S w) (hI : IC n nc nm S) (u : Int) (hu : -1 ≤ u ∧ u < n) : CT l D ca base yX3_firstOutOfForce cX3_firstOutOfForce 3 (some (.object "Calibratory$Instrument")) 2 0 0 [.ref (ad 0 0), va_rf (pt (ad 1) (u))] w (fun v w' => v = some (va_rf (pt (ad 1) (fof (S 14) (inF S) 12 u))) ∧ w = w') (fun _ _ => False) := by
  obtain ⟨hn, hnc, hnm, e3, e4, e5, h6, h7, h8⟩ := hI.top
  refine CT.mk hlt (by decide +kernel) (by first | exact Nat.le_of_ble_eq_true rfl | simp [lg_sl, cat_rf, cat_i, cat_l, cat_r]) ?_
  intro p e s m args below meth c X htab
  rw [show lv_args 0 [.ref (ad 0 0), va_rf (pt (ad 1) (u))] = [(0, .ref (ad 0 0)), (1, va_rf (pt (ad 1) (u)))] from by first | rfl | simp [lv_args, cat_rf, cat_i, cat_l, cat_r]]
  refine j_aloadq_n X dX3_firstOutOfForce_0 (q := 1) rfl 1 rfl ?_
  refine j_astoreq_n X (i := 2) dX3_firstOutOfForce_1 rfl (by decide) (q := 2) rfl (lv' := [(2, va_rf (pt (ad 1) (u))), (0, .ref (ad 0 0)), (1, va_rf (pt (ad 1) (u)))]) (by first | rfl | simp [cat_rf, cat_i, cat_l, cat_r]) ?_
  have loop : ∀ (kk : Nat) (a : Int), (-1 ≤ a ∧ a < n) → ends (S 14) kk a → fof (S 14) (inF S) 12 u = fof (S 14) (inF S) kk a → J p l e (Rm 2 0 0) s m args below meth c (vx_MQ below (Qn D base (fun v w' => v = some (va_rf (pt (ad 1) (fof (S 14) (inF S) 12 u))) ∧ w = w')) (Xn D base (fun _ _ => False)) args s 0 0 (fun q => base ≤ q)) D base 3 0 0 2 [(0, .ref (ad 0 0)), (2, va_rf (pt (ad 1) (a)))] [] w := by
    intro kk
    induction kk using Nat.strongRecOn with
    | ind kk ih =>
      intro a ha hk hv
      refine j_aloadq_n X dX3_firstOutOfForce_2 (q := 3) rfl 1 rfl ?_
      refine j_ifnullp X (tgt := 24) dX3_firstOutOfForce_3 (by decide) (q := 6) rfl (fun c_3 => ?_) (fun c_3 => ?_)
      · skip
        refine j_null X dX3_firstOutOfForce_24 (q := 25) rfl ?_
        exact j_aret X rfl dX3_firstOutOfForce_25 (⟨by rw [hv, fof_n c_3]; rfl, rfl⟩) (by decide) (by decide)
      · skip
        obtain ⟨f_3_0, f_3_1, f_3_2, f_3_3, f_3_4, f_3_5, f_3_6, f_3_7, f_3_8⟩ := hI.ins c_3 ha.2
        obtain ⟨j9, rfl, hk9⟩ := ends_pos hk c_3
        refine j_aload_n X dX3_firstOutOfForce_6 (q := 7) rfl 0 rfl ?_
        refine j_aloadq_n X dX3_firstOutOfForce_7 (q := 8) rfl 1 rfl ?_
        refine j_callV X (As := [va_rf (pt (ad 1) (a))]) (st := []) hC.cal rfl (c_X3_isInForce hlt hC hI a ⟨c_3, ha.2⟩) sv_X3_189 (by decide) rfl (by first | decide | simp [cat_rf, cat_i, cat_l, cat_r]) dX3_firstOutOfForce_8 (by decide) (fun _ _ h => h.elim) ?_
        rintro v9 w9 ⟨rfl, rfl⟩
        refine j_st (st := [.int (iI (inF S a))]) ?_
        have hb9 := inF_b S a
        refine j_if_ne X (tgt := 16) dX3_firstOutOfForce_11 (by decide) (q := 14) rfl (by omega) (fun c_11 => ?_) (fun c_11 => ?_)
        · skip
          refine j_aloadq_n X dX3_firstOutOfForce_16 (q := 17) rfl 1 rfl ?_
          refine j_getp X (v := va_rf (pt (ad 1) (S 14 a))) fl_X3_50 c_3 (hC.ins c_3 ha.2) rfl dX3_firstOutOfForce_17 (q := 20) rfl ?_
          refine j_astoreq_n X (i := 2) dX3_firstOutOfForce_20 rfl (by decide) (q := 21) rfl (lv' := [(2, va_rf (pt (ad 1) (S 14 a))), (0, .ref (ad 0 0))]) (by first | rfl | simp [cat_rf, cat_i, cat_l, cat_r]) ?_
          refine j_goto X (tgt := 2) dX3_firstOutOfForce_21 (by decide) ?_
          exact j_lv (ih j9 (by omega) (S 14 a) (by omega) hk9 (hv.trans (fof_s c_3 c_11))) [1, 0] rfl
        · skip
          refine j_aloadq_n X dX3_firstOutOfForce_14 (q := 15) rfl 1 rfl ?_
          exact j_aret X rfl dX3_firstOutOfForce_15 (⟨by rw [hv, fof_e c_3 c_11], rfl⟩) (by decide) (by decide)
  exact j_lv (loop 12 u hu (hI.ends hu.1 hu.2) rfl) [1, 0] rfl

set_option maxRecDepth 100000 in
set_option maxHeartbeats 4000000 in
theorem c_X3_intervalOf {l : Launch} (hlt : l.stackTraces = false) {D : va_G} {ca : Nat → ClassId} {base : Nat} {ad : Nat → Int → Nat} {n nc nm : Int} {S : St} {w : Wd} (hC : CW base ca ad n nc nm S w) (hI : IC n nc nm S) (z : Int) (hz : -2147483648 ≤ z ∧ z ≤ 2147483647) : CT l D ca base yX3_intervalOf cX3_intervalOf 2 (some .int) 2 1 6 [.ref (ad 0 0), .int (iI (z))] w (fun v w' => (0 ≤ z ∧ z < n) ∧ v = some (.int (iI (S 13 z))) ∧ w = w') (fun E w' => ¬ (0 ≤ z ∧ z < n) ∧ E = nIO ∧ w = w') := by
  obtain ⟨hn, hnc, hnm, e3, e4, e5, h6, h7, h8⟩ := hI.top
  refine CT.mk hlt (by decide +kernel) (by first | exact Nat.le_of_ble_eq_true rfl | simp [lg_sl, cat_rf, cat_i, cat_l, cat_r]) ?_
  intro p e s m args below meth c X htab
  rw [show lv_args 0 [.ref (ad 0 0), .int (iI (z))] = [(0, .ref (ad 0 0)), (1, .int (iI (z)))] from by first | rfl | simp [lv_args, cat_rf, cat_i, cat_l, cat_r]]
  refine j_aload_n X dX3_intervalOf_0 (q := 1) rfl 0 rfl ?_
  refine j_iload_n X dX3_intervalOf_1 (q := 2) rfl 1 rfl ?_
  refine j_callV X (As := [.int (iI (z))]) (st := []) hC.cal rfl (c_X3_known hlt hC hI z hz) sv_X3_54 (by decide) rfl (by first | decide | simp [cat_rf, cat_i, cat_l, cat_r]) dX3_intervalOf_2 (by decide) (fun E w' h => jx_out X htab h (by decide) (by decide)) ?_
  rintro v9 w9 ⟨k1, rfl, rfl⟩
  refine j_st (st := [va_rf (pt (ad 1) (z))]) ?_
  obtain ⟨f_4_0, f_4_1, f_4_2, f_4_3, f_4_4, f_4_5, f_4_6, f_4_7, f_4_8⟩ := hI.ins k1.1 k1.2
  refine j_getp X (v := .int (iI (S 13 z))) fl_X3_146 k1.1 (hC.ins k1.1 k1.2) rfl dX3_intervalOf_5 (q := 8) rfl ?_
  exact j_iret X rfl dX3_intervalOf_8 (⟨k1, rfl, rfl⟩) (by decide) (by decide)

set_option maxRecDepth 100000 in
set_option maxHeartbeats 4000000 in
theorem c_X3_failures {l : Launch} (hlt : l.stackTraces = false) {D : va_G} {ca : Nat → ClassId} {base : Nat} {ad : Nat → Int → Nat} {n nc nm : Int} {S : St} {w : Wd} (hC : CW base ca ad n nc nm S w) (hI : IC n nc nm S) (z : Int) (hz : -2147483648 ≤ z ∧ z ≤ 2147483647) : CT l D ca base yX3_failures cX3_failures 2 (some .int) 2 1 6 [.ref (ad 0 0), .int (iI (z))] w (fun v w' => (0 ≤ z ∧ z < n) ∧ v = some (.int (iI (S 16 z))) ∧ w = w') (fun E w' => ¬ (0 ≤ z ∧ z < n) ∧ E = nIO ∧ w = w') := by
  obtain ⟨hn, hnc, hnm, e3, e4, e5, h6, h7, h8⟩ := hI.top
  refine CT.mk hlt (by decide +kernel) (by first | exact Nat.le_of_ble_eq_true rfl | simp [lg_sl, cat_rf, cat_i, cat_l, cat_r]) ?_
  intro p e s m args below meth c X htab
  rw [show lv_args 0 [.ref (ad 0 0), .int (iI (z))] = [(0, .ref (ad 0 0)), (1, .int (iI (z)))] from by first | rfl | simp [lv_args, cat_rf, cat_i, cat_l, cat_r]]
  refine j_aload_n X dX3_failures_0 (q := 1) rfl 0 rfl ?_
  refine j_iload_n X dX3_failures_1 (q := 2) rfl 1 rfl ?_
  refine j_callV X (As := [.int (iI (z))]) (st := []) hC.cal rfl (c_X3_known hlt hC hI z hz) sv_X3_54 (by decide) rfl (by first | decide | simp [cat_rf, cat_i, cat_l, cat_r]) dX3_failures_2 (by decide) (fun E w' h => jx_out X htab h (by decide) (by decide)) ?_
  rintro v9 w9 ⟨k1, rfl, rfl⟩
  refine j_st (st := [va_rf (pt (ad 1) (z))]) ?_
  obtain ⟨f_5_0, f_5_1, f_5_2, f_5_3, f_5_4, f_5_5, f_5_6, f_5_7, f_5_8⟩ := hI.ins k1.1 k1.2
  refine j_getp X (v := .int (iI (S 16 z))) fl_X3_136 k1.1 (hC.ins k1.1 k1.2) rfl dX3_failures_5 (q := 8) rfl ?_
  exact j_iret X rfl dX3_failures_8 (⟨k1, rfl, rfl⟩) (by decide) (by decide)

set_option maxRecDepth 100000 in
set_option maxHeartbeats 4000000 in
theorem c_X3_dueOf {l : Launch} (hlt : l.stackTraces = false) {D : va_G} {ca : Nat → ClassId} {base : Nat} {ad : Nat → Int → Nat} {n nc nm : Int} {S : St} {w : Wd} (hC : CW base ca ad n nc nm S w) (hI : IC n nc nm S) (z : Int) (hz : -2147483648 ≤ z ∧ z ≤ 2147483647) : CT l D ca base yX3_dueOf cX3_dueOf 3 (some .int) 2 1 6 [.ref (ad 0 0), .int (iI (z))] w (fun v w' => (0 ≤ z ∧ z < n) ∧ v = some (.int (iI (if S 15 z < 0 then -1 else S 21 (S 15 z) + S 13 z))) ∧ w = w') (fun E w' => ¬ (0 ≤ z ∧ z < n) ∧ E = nIO ∧ w = w') := by
  obtain ⟨hn, hnc, hnm, e3, e4, e5, h6, h7, h8⟩ := hI.top
  refine CT.mk hlt (by decide +kernel) (by first | exact Nat.le_of_ble_eq_true rfl | simp [lg_sl, cat_rf, cat_i, cat_l, cat_r]) ?_
  intro p e s m args below meth c X htab
  rw [show lv_args 0 [.ref (ad 0 0), .int (iI (z))] = [(0, .ref (ad 0 0)), (1, .int (iI (z)))] from by first | rfl | simp [lv_args, cat_rf, cat_i, cat_l, cat_r]]
  refine j_aload_n X dX3_dueOf_0 (q := 1) rfl 0 rfl ?_
  refine j_iload_n X dX3_dueOf_1 (q := 2) rfl 1 rfl ?_
  refine j_callV X (As := [.int (iI (z))]) (st := []) hC.cal rfl (c_X3_known hlt hC hI z hz) sv_X3_54 (by decide) rfl (by first | decide | simp [cat_rf, cat_i, cat_l, cat_r]) dX3_dueOf_2 (by decide) (fun E w' h => jx_out X htab h (by decide) (by decide)) ?_
  rintro v9 w9 ⟨k1, rfl, rfl⟩
  refine j_st (st := [va_rf (pt (ad 1) (z))]) ?_
  obtain ⟨f_6_0, f_6_1, f_6_2, f_6_3, f_6_4, f_6_5, f_6_6, f_6_7, f_6_8⟩ := hI.ins k1.1 k1.2
  refine j_astoreq_n X (i := 2) dX3_dueOf_5 rfl (by decide) (q := 6) rfl (lv' := [(2, va_rf (pt (ad 1) (z))), (0, .ref (ad 0 0)), (1, .int (iI (z)))]) (by first | rfl | simp [cat_rf, cat_i, cat_l, cat_r]) ?_
  refine j_aloadq_n X dX3_dueOf_6 (q := 7) rfl 0 rfl ?_
  refine j_getp X (v := va_rf (pt (ad 2) (S 15 z))) fl_X3_95 k1.1 (hC.ins k1.1 k1.2) rfl dX3_dueOf_7 (q := 10) rfl ?_
  refine j_ifnonnullp X (tgt := 17) dX3_dueOf_10 (by decide) (q := 13) rfl (fun c_10 => ?_) (fun c_10 => ?_)
  · skip
    obtain ⟨f_7_0, f_7_1, f_7_2, f_7_3, f_7_4, f_7_5, f_7_6, f_7_7, f_7_8, f_7_9⟩ := hI.kal c_10 (by omega)
    refine j_aloadq_n X dX3_dueOf_17 (q := 18) rfl 0 rfl ?_
    refine j_aloadq_n X dX3_dueOf_18 (q := 19) rfl 0 rfl ?_
    refine j_getp X (v := va_rf (pt (ad 2) (S 15 z))) fl_X3_95 k1.1 (hC.ins k1.1 k1.2) rfl dX3_dueOf_19 (q := 22) rfl ?_
    refine j_callS X (As := [va_rf (pt (ad 1) (z)), va_rf (pt (ad 2) (S 15 z))]) (st := [])  (c_X3_dueDay hlt hC hI z (S 15 z) k1 ⟨c_10, by omega⟩) ss_X3_182 (by decide) rfl (by first | decide | simp [cat_rf, cat_i, cat_l, cat_r]) dX3_dueOf_22 (by decide) (fun _ _ h => h.elim) ?_
    rintro v9 w9 ⟨rfl, rfl⟩
    refine j_st (st := [.int (iI (S 21 (S 15 z) + S 13 z))]) ?_
    exact j_iret X rfl dX3_dueOf_25 (⟨k1, by rw [if_neg (by omega)], rfl⟩) (by decide) (by decide)
  · skip
    refine j_iconst X (a := -1) dX3_dueOf_13 (q := 14) rfl ?_
    refine j_goto X (tgt := 25) dX3_dueOf_14 (by decide) ?_
    exact j_iret X rfl dX3_dueOf_25 (⟨k1, by rw [if_pos c_10], rfl⟩) (by decide) (by decide)

set_option maxRecDepth 100000 in
set_option maxHeartbeats 4000000 in
theorem c_X3_isSuspect {l : Launch} (hlt : l.stackTraces = false) {D : va_G} {ca : Nat → ClassId} {base : Nat} {ad : Nat → Int → Nat} {n nc nm : Int} {S : St} {w : Wd} (hC : CW base ca ad n nc nm S w) (hI : IC n nc nm S) (z : Int) (hz : -2147483648 ≤ z ∧ z ≤ 2147483647) : CT l D ca base yX3_isSuspect cX3_isSuspect 3 (some .boolean) 2 1 6 [.ref (ad 0 0), .int (iI (z))] w (fun v w' => (0 ≤ z ∧ z < n) ∧ v = some (.int (iI (tf (0 ≤ S 15 z ∧ S 26 (S 15 z) = 1)))) ∧ w = w') (fun E w' => ¬ (0 ≤ z ∧ z < n) ∧ E = nIO ∧ w = w') := by
  obtain ⟨hn, hnc, hnm, e3, e4, e5, h6, h7, h8⟩ := hI.top
  refine CT.mk hlt (by decide +kernel) (by first | exact Nat.le_of_ble_eq_true rfl | simp [lg_sl, cat_rf, cat_i, cat_l, cat_r]) ?_
  intro p e s m args below meth c X htab
  rw [show lv_args 0 [.ref (ad 0 0), .int (iI (z))] = [(0, .ref (ad 0 0)), (1, .int (iI (z)))] from by first | rfl | simp [lv_args, cat_rf, cat_i, cat_l, cat_r]]
  refine j_aload_n X dX3_isSuspect_0 (q := 1) rfl 0 rfl ?_
  refine j_iload_n X dX3_isSuspect_1 (q := 2) rfl 1 rfl ?_
  refine j_callV X (As := [.int (iI (z))]) (st := []) hC.cal rfl (c_X3_known hlt hC hI z hz) sv_X3_54 (by decide) rfl (by first | decide | simp [cat_rf, cat_i, cat_l, cat_r]) dX3_isSuspect_2 (by decide) (fun E w' h => jx_out X htab h (by decide) (by decide)) ?_
  rintro v9 w9 ⟨k1, rfl, rfl⟩
  refine j_st (st := [va_rf (pt (ad 1) (z))]) ?_
  obtain ⟨f_8_0, f_8_1, f_8_2, f_8_3, f_8_4, f_8_5, f_8_6, f_8_7, f_8_8⟩ := hI.ins k1.1 k1.2
  refine j_astoreq_n X (i := 2) dX3_isSuspect_5 rfl (by decide) (q := 6) rfl (lv' := [(2, va_rf (pt (ad 1) (z))), (0, .ref (ad 0 0)), (1, .int (iI (z)))]) (by first | rfl | simp [cat_rf, cat_i, cat_l, cat_r]) ?_
  refine j_aloadq_n X dX3_isSuspect_6 (q := 7) rfl 0 rfl ?_
  refine j_getp X (v := va_rf (pt (ad 2) (S 15 z))) fl_X3_95 k1.1 (hC.ins k1.1 k1.2) rfl dX3_isSuspect_7 (q := 10) rfl ?_
  refine j_ifnullp X (tgt := 27) dX3_isSuspect_10 (by decide) (q := 13) rfl (fun c_10 => ?_) (fun c_10 => ?_)
  · skip
    refine j_iconst X (a := 0) dX3_isSuspect_27 (q := 28) rfl ?_
    exact j_zret X rfl (Or.inl rfl) dX3_isSuspect_28 (⟨k1, by rw [tf_f (by omega)], rfl⟩) (by decide) (by decide)
  · skip
    obtain ⟨f_9_0, f_9_1, f_9_2, f_9_3, f_9_4, f_9_5, f_9_6, f_9_7, f_9_8, f_9_9⟩ := hI.kal c_10 (by omega)
    refine j_aloadq_n X dX3_isSuspect_13 (q := 14) rfl 0 rfl ?_
    refine j_getp X (v := va_rf (pt (ad 2) (S 15 z))) fl_X3_95 k1.1 (hC.ins k1.1 k1.2) rfl dX3_isSuspect_14 (q := 17) rfl ?_
    refine j_getp X (v := .int (iI (S 26 (S 15 z)))) fl_X3_186 c_10 (hC.kal c_10 (by omega)) rfl dX3_isSuspect_17 (q := 20) rfl ?_
    refine j_if_eq X (tgt := 27) dX3_isSuspect_20 (by decide) (q := 23) rfl (by omega) (fun c_20 => ?_) (fun c_20 => ?_)
    · skip
      refine j_iconst X (a := 0) dX3_isSuspect_27 (q := 28) rfl ?_
      exact j_zret X rfl (Or.inl rfl) dX3_isSuspect_28 (⟨k1, by rw [tf_f (by omega)], rfl⟩) (by decide) (by decide)
    · skip
      refine j_iconst X (a := 1) dX3_isSuspect_23 (q := 24) rfl ?_
      refine j_goto X (tgt := 28) dX3_isSuspect_24 (by decide) ?_
      exact j_zret X rfl (Or.inr rfl) dX3_isSuspect_28 (⟨k1, by rw [tf_t (by omega)], rfl⟩) (by decide) (by decide)

set_option maxRecDepth 100000 in
set_option maxHeartbeats 4000000 in
theorem c_X3_distrusted {l : Launch} (hlt : l.stackTraces = false) {D : va_G} {ca : Nat → ClassId} {base : Nat} {ad : Nat → Int → Nat} {n nc nm : Int} {S : St} {w : Wd} (hC : CW base ca ad n nc nm S w) (hI : IC n nc nm S) (z : Int) (hz : -2147483648 ≤ z ∧ z ≤ 2147483647) : CT l D ca base yX3_distrusted cX3_distrusted 2 (some .int) 3 1 6 [.ref (ad 0 0), .int (iI (z))] w (fun v w' => (0 ≤ z ∧ z < n) ∧ v = some (.int (iI (fof (S 14) (inF S) 12 z))) ∧ w = w') (fun E w' => ¬ (0 ≤ z ∧ z < n) ∧ E = nIO ∧ w = w') := by
  obtain ⟨hn, hnc, hnm, e3, e4, e5, h6, h7, h8⟩ := hI.top
  refine CT.mk hlt (by decide +kernel) (by first | exact Nat.le_of_ble_eq_true rfl | simp [lg_sl, cat_rf, cat_i, cat_l, cat_r]) ?_
  intro p e s m args below meth c X htab
  rw [show lv_args 0 [.ref (ad 0 0), .int (iI (z))] = [(0, .ref (ad 0 0)), (1, .int (iI (z)))] from by first | rfl | simp [lv_args, cat_rf, cat_i, cat_l, cat_r]]
  refine j_aload_n X dX3_distrusted_0 (q := 1) rfl 0 rfl ?_
  refine j_aload_n X dX3_distrusted_1 (q := 2) rfl 0 rfl ?_
  refine j_iload_n X dX3_distrusted_2 (q := 3) rfl 1 rfl ?_
  refine j_callV X (As := [.int (iI (z))]) (st := [.ref (ad 0 0)]) hC.cal rfl (c_X3_known hlt hC hI z hz) sv_X3_54 (by decide) rfl (by first | decide | simp [cat_rf, cat_i, cat_l, cat_r]) dX3_distrusted_3 (by decide) (fun E w' h => jx_out X htab h (by decide) (by decide)) ?_
  rintro v9 w9 ⟨k1, rfl, rfl⟩
  refine j_st (st := [va_rf (pt (ad 1) (z)), .ref (ad 0 0)]) ?_
  obtain ⟨f_10_0, f_10_1, f_10_2, f_10_3, f_10_4, f_10_5, f_10_6, f_10_7, f_10_8⟩ := hI.ins k1.1 k1.2
  refine j_callV X (As := [va_rf (pt (ad 1) (z))]) (st := []) hC.cal rfl (c_X3_firstOutOfForce hlt hC hI z (by omega)) sv_X3_86 (by decide) rfl (by first | decide | simp [cat_rf, cat_i, cat_l, cat_r]) dX3_distrusted_6 (by decide) (fun _ _ h => h.elim) ?_
  rintro v9 w9 ⟨rfl, rfl⟩
  refine j_st (st := [va_rf (pt (ad 1) (fof (S 14) (inF S) 12 z))]) ?_
  have hf9 := fof_r (inF := inF S) (fun i a b => (hI.ins a b).2.2.2.2.1) 12 z (by omega) k1.2 hn.1
  refine j_callS X (As := [va_rf (pt (ad 1) (fof (S 14) (inF S) 12 z))]) (st := [])  (c_X3_numberOf hlt hC hI (fof (S 14) (inF S) 12 z) hf9) ss_X3_63 (by decide) rfl (by first | decide | simp [cat_rf, cat_i, cat_l, cat_r]) dX3_distrusted_9 (by decide) (fun _ _ h => h.elim) ?_
  rintro v9 w9 ⟨rfl, rfl⟩
  refine j_st (st := [.int (iI (fof (S 14) (inF S) 12 z))]) ?_
  exact j_iret X rfl dX3_distrusted_12 (⟨k1, rfl, rfl⟩) (by decide) (by decide)

set_option maxRecDepth 100000 in
set_option maxHeartbeats 4000000 in
theorem c_X3_chain {l : Launch} (hlt : l.stackTraces = false) {D : va_G} {ca : Nat → ClassId} {base : Nat} {ad : Nat → Int → Nat} {n nc nm : Int} {S : St} {w : Wd} (hC : CW base ca ad n nc nm S w) (hI : IC n nc nm S) (z : Int) (hz : -2147483648 ≤ z ∧ z ≤ 2147483647) : CT l D ca base yX3_chain cX3_chain 4 (some .int) 2 1 6 [.ref (ad 0 0), .int (iI (z))] w (fun v w' => (0 ≤ z ∧ z < n) ∧ v = some (.int (iI (len (S 14) 12 z))) ∧ w = w') (fun E w' => ¬ (0 ≤ z ∧ z < n) ∧ E = nIO ∧ w = w') := by
  obtain ⟨hn, hnc, hnm, e3, e4, e5, h6, h7, h8⟩ := hI.top
  refine CT.mk hlt (by decide +kernel) (by first | exact Nat.le_of_ble_eq_true rfl | simp [lg_sl, cat_rf, cat_i, cat_l, cat_r]) ?_
  intro p e s m args below meth c X htab
  rw [show lv_args 0 [.ref (ad 0 0), .int (iI (z))] = [(0, .ref (ad 0 0)), (1, .int (iI (z)))] from by first | rfl | simp [lv_args, cat_rf, cat_i, cat_l, cat_r]]
  refine j_iconst X (a := 0) dX3_chain_0 (q := 1) rfl ?_
  refine j_istore_n X (i := 2) dX3_chain_1 rfl (by decide) (q := 2) rfl (lv' := [(2, .int (iI (0))), (0, .ref (ad 0 0)), (1, .int (iI (z)))]) (by first | rfl | simp [cat_rf, cat_i, cat_l, cat_r]) ?_
  refine j_aload_n X dX3_chain_2 (q := 3) rfl 1 rfl ?_
  refine j_iload_n X dX3_chain_3 (q := 4) rfl 2 rfl ?_
  refine j_callV X (As := [.int (iI (z))]) (st := []) hC.cal rfl (c_X3_known hlt hC hI z hz) sv_X3_54 (by decide) rfl (by first | decide | simp [cat_rf, cat_i, cat_l, cat_r]) dX3_chain_4 (by decide) (fun E w' h => jx_out X htab h (by decide) (by decide)) ?_
  rintro v9 w9 ⟨k1, rfl, rfl⟩
  refine j_st (st := [va_rf (pt (ad 1) (z))]) ?_
  obtain ⟨f_11_0, f_11_1, f_11_2, f_11_3, f_11_4, f_11_5, f_11_6, f_11_7, f_11_8⟩ := hI.ins k1.1 k1.2
  refine j_astoreq_n X (i := 3) dX3_chain_7 rfl (by decide) (q := 8) rfl (lv' := [(3, va_rf (pt (ad 1) (z))), (2, .int (iI (0))), (0, .ref (ad 0 0)), (1, .int (iI (z)))]) (by first | rfl | simp [cat_rf, cat_i, cat_l, cat_r]) ?_
  have loop : ∀ (kk : Nat) (a acc : Int), (-1 ≤ a ∧ a < n) → ends (S 14) kk a → (0 ≤ acc ∧ acc + kk ≤ 100) → len (S 14) 12 z = acc + len (S 14) kk a → J p l e (Rm 2 1 6) s m args below meth c (vx_MQ below (Qn D base (fun v w' => (0 ≤ z ∧ z < n) ∧ v = some (.int (iI (len (S 14) 12 z))) ∧ w = w')) (Xn D base (fun E w' => ¬ (0 ≤ z ∧ z < n) ∧ E = nIO ∧ w = w')) args s 1 6 (fun q => base ≤ q)) D base 4 1 6 8 [(2, .int (iI (acc))), (3, va_rf (pt (ad 1) (a)))] [] w := by
    intro kk
    induction kk using Nat.strongRecOn with
    | ind kk ih =>
      intro a acc ha hk hac hv
      refine j_aloadq_n X dX3_chain_8 (q := 9) rfl 1 rfl ?_
      refine j_ifnullp X (tgt := 23) dX3_chain_9 (by decide) (q := 12) rfl (fun c_9 => ?_) (fun c_9 => ?_)
      · skip
        refine j_iload_n X dX3_chain_23 (q := 24) rfl 0 rfl ?_
        exact j_iret X rfl dX3_chain_24 (⟨k1, by rw [len_n c_9] at hv; congr 3; omega, rfl⟩) (by decide) (by decide)
      · skip
        obtain ⟨f_12_0, f_12_1, f_12_2, f_12_3, f_12_4, f_12_5, f_12_6, f_12_7, f_12_8⟩ := hI.ins c_9 ha.2
        obtain ⟨j9, rfl, hk9⟩ := ends_pos hk c_9
        refine j_iinc X dX3_chain_12 0 rfl (by decide) (q := 15) rfl (lv' := [(2, .int (iI (acc + 1))), (3, va_rf (pt (ad 1) (a)))]) (by first | rfl | simp [cat_rf, cat_i, cat_l, cat_r]) ?_
        refine j_aloadq_n X dX3_chain_15 (q := 16) rfl 1 rfl ?_
        refine j_getp X (v := va_rf (pt (ad 1) (S 14 a))) fl_X3_50 c_9 (hC.ins c_9 ha.2) rfl dX3_chain_16 (q := 19) rfl ?_
        refine j_astoreq_n X (i := 3) dX3_chain_19 rfl (by decide) (q := 20) rfl (lv' := [(3, va_rf (pt (ad 1) (S 14 a))), (2, .int (iI (acc + 1)))]) (by first | rfl | simp [cat_rf, cat_i, cat_l, cat_r]) ?_
        refine j_goto X (tgt := 8) dX3_chain_20 (by decide) ?_
        exact j_lv (ih j9 (by omega) (S 14 a) (acc + 1) (by omega) hk9 (by omega) (by rw [len_s c_9] at hv; omega)) [1, 0] rfl
  exact j_lv (loop 12 z 0 (by omega) (hI.ends (by omega) k1.2) (by decide) (by omega)) [1, 0] rfl

set_option maxRecDepth 100000 in
set_option maxHeartbeats 4000000 in
theorem c_X3_isCalledBack {l : Launch} (hlt : l.stackTraces = false) {D : va_G} {ca : Nat → ClassId} {base : Nat} {ad : Nat → Int → Nat} {n nc nm : Int} {S : St} {w : Wd} (hC : CW base ca ad n nc nm S w) (hI : IC n nc nm S) (z : Int) (hz : -2147483648 ≤ z ∧ z ≤ 2147483647) : CT l D ca base yX3_isCalledBack cX3_isCalledBack 3 (some .boolean) 0 1 6 [.ref (ad 0 0), .int (iI (z))] w (fun v w' => (0 ≤ z ∧ z < nm) ∧ v = some (.int (iI (S 32 z))) ∧ w = w') (fun E w' => ¬ (0 ≤ z ∧ z < nm) ∧ E = nIO ∧ w = w') := by
  obtain ⟨hn, hnc, hnm, e3, e4, e5, h6, h7, h8⟩ := hI.top
  refine CT.mk hlt (by decide +kernel) (by first | exact Nat.le_of_ble_eq_true rfl | simp [lg_sl, cat_rf, cat_i, cat_l, cat_r]) ?_
  intro p e s m args below meth c X htab
  rw [show lv_args 0 [.ref (ad 0 0), .int (iI (z))] = [(0, .ref (ad 0 0)), (1, .int (iI (z)))] from by first | rfl | simp [lv_args, cat_rf, cat_i, cat_l, cat_r]]
  refine j_iload_n X dX3_isCalledBack_0 (q := 1) rfl 1 rfl ?_
  refine j_if_lt X (tgt := 13) dX3_isCalledBack_1 (by decide) (q := 4) rfl (by omega) (fun c_1 => ?_) (fun c_1 => ?_)
  · skip
    exact j_throw X htab ts_72_219 dX3_isCalledBack_13 dX3_isCalledBack_16 dX3_isCalledBack_17 dX3_isCalledBack_19 dX3_isCalledBack_22 (by decide) (by decide) (by decide) (by decide) (⟨by (try split at *) <;> omega, rfl, rfl⟩) (by decide) (by decide)
  · skip
    refine j_iload_n X dX3_isCalledBack_4 (q := 5) rfl 1 rfl ?_
    refine j_aload_n X dX3_isCalledBack_5 (q := 6) rfl 0 rfl ?_
    refine j_get X (v := .ref (ad 0 2)) fl_X3_17 hC.cal rfl dX3_isCalledBack_6 (q := 9) rfl ?_
    refine j_alen X (t := 3) (N := 200) rfl hC.made rfl dX3_isCalledBack_9 (q := 10) rfl ?_
    refine j_icmp_lt X (tgt := 23) dX3_isCalledBack_10 (by decide) (q := 13) rfl (by omega) (by omega) (fun c_10 => ?_) (fun c_10 => ?_)
    · skip
      refine j_aload_n X dX3_isCalledBack_23 (q := 24) rfl 0 rfl ?_
      refine j_get X (v := .ref (ad 0 2)) fl_X3_17 hC.cal rfl dX3_isCalledBack_24 (q := 27) rfl ?_
      refine j_iload_n X dX3_isCalledBack_27 (q := 28) rfl 1 rfl ?_
      refine j_aald X (t := 3) (i := z) rfl hC.made (by omega) (by decide) dX3_isCalledBack_28 (q := 29) rfl ?_
      rw [rw_pt (by omega)]
      refine j_astoreq_n X (i := 2) dX3_isCalledBack_29 rfl (by decide) (q := 30) rfl (lv' := [(2, va_rf (pt (ad 3) (if z < S 4 0 then z else -1))), (0, .ref (ad 0 0)), (1, .int (iI (z)))]) (by first | rfl | simp [cat_rf, cat_i, cat_l, cat_r]) ?_
      refine j_aloadq_n X dX3_isCalledBack_30 (q := 31) rfl 0 rfl ?_
      refine j_ifnonnullp X (tgt := 44) dX3_isCalledBack_31 (by decide) (q := 34) rfl (fun c_31 => ?_) (fun c_31 => ?_)
      · skip
        have hz2 : 0 ≤ z ∧ z < nm := by split at c_31 <;> omega
        rw [if_pos (by omega)]
        obtain ⟨f_13_0, f_13_1, f_13_2⟩ := hI.mea hz2.1 hz2.2
        refine j_aloadq_n X dX3_isCalledBack_44 (q := 45) rfl 0 rfl ?_
        refine j_getp X (v := .int (iI (S 32 z))) fl_X3_221 hz2.1 (hC.mea hz2.1 hz2.2) rfl dX3_isCalledBack_45 (q := 48) rfl ?_
        exact j_zret X rfl (b01 (by omega)) dX3_isCalledBack_48 (⟨hz2, rfl, rfl⟩) (by decide) (by decide)
      · skip
        exact j_throw X htab ts_72_219 dX3_isCalledBack_34 dX3_isCalledBack_37 dX3_isCalledBack_38 dX3_isCalledBack_40 dX3_isCalledBack_43 (by decide) (by decide) (by decide) (by decide) (⟨by (try split at *) <;> omega, rfl, rfl⟩) (by decide) (by decide)
    · skip
      exact j_throw X htab ts_72_219 dX3_isCalledBack_13 dX3_isCalledBack_16 dX3_isCalledBack_17 dX3_isCalledBack_19 dX3_isCalledBack_22 (by decide) (by decide) (by decide) (by decide) (⟨by (try split at *) <;> omega, rfl, rfl⟩) (by decide) (by decide)
end
section
theorem rw_ptin {ad : Int → Nat} {c i : Int} (h0 : 0 ≤ i) (h1 : i < c) : rw_ ad c i.toNat = pt ad i := by rw [rw_in h0 h1, pt_s h0]
def sm (f : Int → Int) : Nat → Int
  | 0 => 0
  | k + 1 => sm f k + f k
theorem sm_s {f : Int → Int} {i : Int} (h : 0 ≤ i) : sm f (i + 1).toNat = sm f i.toNat + f i := by
  obtain ⟨k, rfl⟩ := Int.eq_ofNat_of_zero_le h
  show sm f (k + 1) = sm f k + f k
  rfl
theorem sm_b {f : Int → Int} (h : ∀ i, 0 ≤ f i ∧ f i ≤ 1) : ∀ k : Nat, 0 ≤ sm f k ∧ sm f k ≤ k
  | 0 => by simp [sm]
  | k + 1 => by
    have h1 := sm_b h k
    have h2 := h k
    rw [sm]
    omega
theorem sm_cong {f g : Int → Int} : ∀ {k : Nat}, (∀ i : Int, 0 ≤ i → i < k → f i = g i) → sm f k = sm g k
  | 0, _ => rfl
  | k + 1, h => by rw [sm, sm, sm_cong (fun i a b => h i a (by omega)), h k (by omega) (by omega)]
def stk (S : St) (f k : Int) : Int := if S 32 k = 0 then rst S f (S 8 0) 513 (S 31 k) else 0
theorem stk_b (S : St) (f k : Int) : 0 ≤ stk S f k ∧ stk S f k ≤ 1 := by
  unfold stk
  split
  · exact rst_b S f _ _ _
  · decide
def lgc (S : St) (k i : Int) : Int := tf (S 25 i ≠ 0 ∧ S 30 k < S 20 i ∧ rst S (S 23 i) (S 20 i) 513 (S 31 k) ≠ 0)
def lrc (S : St) (k : Int) : Nat → Int
  | 0 => 0
  | j + 1 => if lrc S k j = 0 then lgc S k j else 1
theorem lrc_b (S : St) (k : Int) : ∀ j, 0 ≤ lrc S k j ∧ lrc S k j ≤ 1
  | 0 => by simp [lrc]
  | j + 1 => by
    rw [lrc]
    split
    · exact tf_b _
    · decide
theorem lrc_s {S : St} {k i : Int} (h : 0 ≤ i) (h0 : lrc S k i.toNat = 0) : lrc S k (i + 1).toNat = lgc S k i := by
  obtain ⟨j, rfl⟩ := Int.eq_ofNat_of_zero_le h
  show lrc S k (j + 1) = lgc S k j
  rw [lrc, if_pos (show lrc S k j = 0 from h0)]
theorem lrc_up {S : St} {k : Int} : ∀ {j d : Nat}, lrc S k j = 1 → lrc S k (j + d) = 1
  | j, 0, h => h
  | j, d + 1, h => by
    show lrc S k (j + d + 1) = 1
    rw [lrc, if_neg (by rw [lrc_up h]; decide)]
theorem lrc_to {S : St} {k : Int} {i c : Int} (h0 : 0 ≤ i) (h1 : i < c) (h : lrc S k i.toNat = 0) (hg : lgc S k i = 1) : lrc S k c.toNat = 1 := by
  have e1 : lrc S k (i + 1).toNat = 1 := by rw [lrc_s h0 h, hg]
  have e2 : c.toNat = (i + 1).toNat + (c.toNat - (i + 1).toNat) := by omega
  rw [e2]
  exact lrc_up e1
def due (S : St) (i : Int) : Int := S 21 (S 15 i) + S 13 i
def ahc (S : St) (u i : Int) : Int := tf (i < S 3 0 ∧ 0 ≤ S 15 i ∧ (due S i < due S u ∨ (due S i = due S u ∧ i < u)))
def ahd (S : St) (u : Int) : Int := sm (ahc S u) 12
theorem ahd_b (S : St) (u : Int) : 0 ≤ ahd S u ∧ ahd S u ≤ 12 := sm_b (fun _ => tf_b _) 12
def latc (S : St) (z i : Int) : Int := tf (i < S 3 0 ∧ 0 ≤ S 15 i ∧ due S i < S 7 0 + (ahd S i).tdiv z)
theorem td_r {a b : Int} (ha : 0 ≤ a ∧ a ≤ 12) (hb : 1 ≤ b) : 0 ≤ a.tdiv b ∧ a.tdiv b ≤ 12 := by
  rw [Int.tdiv_eq_ediv_of_nonneg ha.1]
  have h1 := Int.ediv_nonneg ha.1 (show 0 ≤ b by omega)
  have h2 := Int.ediv_le_self b ha.1
  omega
set_option maxRecDepth 100000 in
set_option maxHeartbeats 4000000 in
theorem c_X3_restsOn {l : Launch} (hlt : l.stackTraces = false) {D : va_G} {ca : Nat → ClassId} {base : Nat} {ad : Nat → Int → Nat} {n nc nm : Int} {S : St} {w : Wd} (hC : CW base ca ad n nc nm S w) (hI : IC n nc nm S) (u f mom : Int) (hu : -1 ≤ u ∧ u < nc) (hf : -1 ≤ f ∧ f < nc) (hm : -2147483648 ≤ mom ∧ mom ≤ 2147483647) : CT l D ca base yX3_restsOn cX3_restsOn 4 (some .boolean) 0 0 0 [va_rf (pt (ad 2) (u)), va_rf (pt (ad 2) (f)), .int (iI (mom))] w (fun v w' => v = some (.int (iI (rst S f mom 513 u))) ∧ w = w') (fun _ _ => False) := by
  obtain ⟨hn, hnc, hnm, e3, e4, e5, h6, h7, h8⟩ := hI.top
  refine CT.mk hlt (by decide +kernel) (by first | exact Nat.le_of_ble_eq_true rfl | simp [lg_sl, cat_rf, cat_i, cat_l, cat_r]) ?_
  intro p e s m args below meth c X htab
  rw [show lv_args 0 [va_rf (pt (ad 2) (u)), va_rf (pt (ad 2) (f)), .int (iI (mom))] = [(0, va_rf (pt (ad 2) (u))), (1, va_rf (pt (ad 2) (f))), (2, .int (iI (mom)))] from by first | rfl | simp [lv_args, cat_rf, cat_i, cat_l, cat_r]]
  refine j_aloadq_n X dX3_restsOn_0 (q := 1) rfl 0 rfl ?_
  refine j_astoreq_n X (i := 3) dX3_restsOn_1 rfl (by decide) (q := 2) rfl (lv' := [(3, va_rf (pt (ad 2) (u))), (0, va_rf (pt (ad 2) (u))), (1, va_rf (pt (ad 2) (f))), (2, .int (iI (mom)))]) (by first | rfl | simp [cat_rf, cat_i, cat_l, cat_r]) ?_
  have loop : ∀ (kk : Nat) (a : Int), (-1 ≤ a ∧ a < nc) → a + 1 ≤ kk → rst S f mom 513 u = rst S f mom kk a → J p l e (Rm 0 0 0) s m args below meth c (vx_MQ below (Qn D base (fun v w' => v = some (.int (iI (rst S f mom 513 u))) ∧ w = w')) (Xn D base (fun _ _ => False)) args s 0 0 (fun q => base ≤ q)) D base 4 0 0 2 [(1, va_rf (pt (ad 2) (f))), (2, .int (iI (mom))), (3, va_rf (pt (ad 2) (a)))] [] w := by
    intro kk
    induction kk using Nat.strongRecOn with
    | ind kk ih =>
      intro a ha hk hv
      refine j_aloadq_n X dX3_restsOn_2 (q := 3) rfl 2 rfl ?_
      refine j_ifnullp X (tgt := 31) dX3_restsOn_3 (by decide) (q := 6) rfl (fun c_3 => ?_) (fun c_3 => ?_)
      · skip
        refine j_iconst X (a := 0) dX3_restsOn_31 (q := 32) rfl ?_
        exact j_zret X rfl (Or.inl rfl) dX3_restsOn_32 (⟨by rw [hv, rst_n c_3], rfl⟩) (by decide) (by decide)
      · skip
        obtain ⟨f_1_0, f_1_1, f_1_2, f_1_3, f_1_4, f_1_5, f_1_6, f_1_7, f_1_8, f_1_9⟩ := hI.kal c_3 ha.2
        obtain ⟨j9, rfl⟩ : ∃ j9, kk = j9 + 1 := ⟨kk - 1, by omega⟩
        refine j_aloadq_n X dX3_restsOn_6 (q := 7) rfl 2 rfl ?_
        refine j_aloadq_n X dX3_restsOn_7 (q := 8) rfl 0 rfl ?_
        refine j_acmp_ne X (tgt := 13) dX3_restsOn_8 (by decide) (q := 11) rfl (fun c_8 => ?_) (fun c_8 => ?_)
        · skip
          refine j_aloadq_n X dX3_restsOn_13 (q := 14) rfl 2 rfl ?_
          refine j_getp X (v := .int (iI (S 27 a))) fl_X3_162 c_3 (hC.kal c_3 ha.2) rfl dX3_restsOn_14 (q := 17) rfl ?_
          refine j_iload_n X dX3_restsOn_17 (q := 18) rfl 1 rfl ?_
          refine j_icmp_ge X (tgt := 23) dX3_restsOn_18 (by decide) (q := 21) rfl (by omega) (by omega) (fun c_18 => ?_) (fun c_18 => ?_)
          · skip
            refine j_aloadq_n X dX3_restsOn_23 (q := 24) rfl 2 rfl ?_
            refine j_getp X (v := va_rf (pt (ad 2) (S 24 a))) fl_X3_234 c_3 (hC.kal c_3 ha.2) rfl dX3_restsOn_24 (q := 27) rfl ?_
            refine j_astoreq_n X (i := 3) dX3_restsOn_27 rfl (by decide) (q := 28) rfl (lv' := [(3, va_rf (pt (ad 2) (S 24 a))), (1, va_rf (pt (ad 2) (f))), (2, .int (iI (mom)))]) (by first | rfl | simp [cat_rf, cat_i, cat_l, cat_r]) ?_
            refine j_goto X (tgt := 2) dX3_restsOn_28 (by decide) ?_
            exact j_lv (ih j9 (by omega) (S 24 a) (by omega) (by omega) (hv.trans (rst_s c_3 (fun z => c_8 (by rw [z])) c_18))) [1, 2, 0] rfl
          · skip
            refine j_iconst X (a := 0) dX3_restsOn_21 (q := 22) rfl ?_
            exact j_zret X rfl (Or.inl rfl) dX3_restsOn_22 (⟨by rw [hv, rst_o c_3 (fun z => c_8 (by rw [z])) c_18], rfl⟩) (by decide) (by decide)
        · skip
          refine j_iconst X (a := 1) dX3_restsOn_11 (q := 12) rfl ?_
          exact j_zret X rfl (Or.inr rfl) dX3_restsOn_12 (⟨by rw [hv, rst_e c_3 ((pt_eq (fun _ _ => hC.inj2) (by omega) (by omega)).mp c_8)], rfl⟩) (by decide) (by decide)
  exact j_lv (loop 513 u hu (by omega) rfl) [2, 3, 0] rfl

set_option maxRecDepth 100000 in
set_option maxHeartbeats 4000000 in
theorem c_X3_isAtStake {l : Launch} (hlt : l.stackTraces = false) {D : va_G} {ca : Nat → ClassId} {base : Nat} {ad : Nat → Int → Nat} {n nc nm : Int} {S : St} {w : Wd} (hC : CW base ca ad n nc nm S w) (hI : IC n nc nm S) (k f : Int) (hk : 0 ≤ k ∧ k < nm) (hf : 0 ≤ f ∧ f < nc) : CT l D ca base yX3_isAtStake cX3_isAtStake 3 (some .boolean) 1 0 0 [.ref (ad 0 0), va_rf (pt (ad 3) (k)), va_rf (pt (ad 2) (f))] w (fun v w' => v = some (.int (iI (stk S f k))) ∧ w = w') (fun _ _ => False) := by
  obtain ⟨hn, hnc, hnm, e3, e4, e5, h6, h7, h8⟩ := hI.top
  refine CT.mk hlt (by decide +kernel) (by first | exact Nat.le_of_ble_eq_true rfl | simp [lg_sl, cat_rf, cat_i, cat_l, cat_r]) ?_
  intro p e s m args below meth c X htab
  rw [show lv_args 0 [.ref (ad 0 0), va_rf (pt (ad 3) (k)), va_rf (pt (ad 2) (f))] = [(0, .ref (ad 0 0)), (1, va_rf (pt (ad 3) (k))), (2, va_rf (pt (ad 2) (f)))] from by first | rfl | simp [lv_args, cat_rf, cat_i, cat_l, cat_r]]
  obtain ⟨f_2_0, f_2_1, f_2_2⟩ := hI.mea hk.1 hk.2
  refine j_aloadq_n X dX3_isAtStake_0 (q := 1) rfl 1 rfl ?_
  refine j_ifnullp X (tgt := 30) dX3_isAtStake_1 (by decide) (q := 4) rfl (fun c_1 => ?_) (fun c_1 => ?_)
  · skip
    exact absurd c_1 (by omega)
  · skip
    refine j_aloadq_n X dX3_isAtStake_4 (q := 5) rfl 1 rfl ?_
    refine j_getp X (v := .int (iI (S 32 k))) fl_X3_221 hk.1 (hC.mea hk.1 hk.2) rfl dX3_isAtStake_5 (q := 8) rfl ?_
    refine j_if_ne X (tgt := 30) dX3_isAtStake_8 (by decide) (q := 11) rfl (by omega) (fun c_8 => ?_) (fun c_8 => ?_)
    · skip
      refine j_iconst X (a := 0) dX3_isAtStake_30 (q := 31) rfl ?_
      exact j_zret X rfl (Or.inl rfl) dX3_isAtStake_31 (⟨by rw [stk, if_neg (by omega)], rfl⟩) (by decide) (by decide)
    · skip
      refine j_aloadq_n X dX3_isAtStake_11 (q := 12) rfl 1 rfl ?_
      refine j_getp X (v := va_rf (pt (ad 2) (S 31 k))) fl_X3_237 hk.1 (hC.mea hk.1 hk.2) rfl dX3_isAtStake_12 (q := 15) rfl ?_
      refine j_aloadq_n X dX3_isAtStake_15 (q := 16) rfl 2 rfl ?_
      refine j_aload_n X dX3_isAtStake_16 (q := 17) rfl 0 rfl ?_
      refine j_get X (v := .int (iI (S 8 0))) fl_X3_99 hC.cal rfl dX3_isAtStake_17 (q := 20) rfl ?_
      refine j_callS X (As := [va_rf (pt (ad 2) (S 31 k)), va_rf (pt (ad 2) (f)), .int (iI (S 8 0))]) (st := [])  (c_X3_restsOn hlt hC hI (S 31 k) f (S 8 0) (by omega) (by omega) (by omega)) ss_X3_238 (by decide) rfl (by first | decide | simp [cat_rf, cat_i, cat_l, cat_r]) dX3_isAtStake_20 (by decide) (fun _ _ h => h.elim) ?_
      rintro v9 w9 ⟨rfl, rfl⟩
      refine j_st (st := [.int (iI (rst S f (S 8 0) 513 (S 31 k)))]) ?_
      have hb9 := rst_b S f (S 8 0) 513 (S 31 k)
      refine j_if_eq X (tgt := 30) dX3_isAtStake_23 (by decide) (q := 26) rfl (by omega) (fun c_23 => ?_) (fun c_23 => ?_)
      · skip
        refine j_iconst X (a := 0) dX3_isAtStake_30 (q := 31) rfl ?_
        exact j_zret X rfl (Or.inl rfl) dX3_isAtStake_31 (⟨by rw [stk, if_pos (by omega), c_23], rfl⟩) (by decide) (by decide)
      · skip
        refine j_iconst X (a := 1) dX3_isAtStake_26 (q := 27) rfl ?_
        refine j_goto X (tgt := 31) dX3_isAtStake_27 (by decide) ?_
        exact j_zret X rfl (Or.inr rfl) dX3_isAtStake_31 (⟨by rw [stk, if_pos (by omega), show rst S f (S 8 0) 513 (S 31 k) = 1 by omega], rfl⟩) (by decide) (by decide)

set_option maxRecDepth 100000 in
set_option maxHeartbeats 4000000 in
theorem c_X3_countAtStake {l : Launch} (hlt : l.stackTraces = false) {D : va_G} {ca : Nat → ClassId} {base : Nat} {ad : Nat → Int → Nat} {n nc nm : Int} {S : St} {w : Wd} (hC : CW base ca ad n nc nm S w) (hI : IC n nc nm S) (f : Int) (hf : 0 ≤ f ∧ f < nc) : CT l D ca base yX3_countAtStake cX3_countAtStake 4 (some .int) 2 0 0 [.ref (ad 0 0), va_rf (pt (ad 2) (f))] w (fun v w' => v = some (.int (iI (sm (stk S f) nm.toNat))) ∧ w = w') (fun _ _ => False) := by
  obtain ⟨hn, hnc, hnm, e3, e4, e5, h6, h7, h8⟩ := hI.top
  refine CT.mk hlt (by decide +kernel) (by first | exact Nat.le_of_ble_eq_true rfl | simp [lg_sl, cat_rf, cat_i, cat_l, cat_r]) ?_
  intro p e s m args below meth c X htab
  rw [show lv_args 0 [.ref (ad 0 0), va_rf (pt (ad 2) (f))] = [(0, .ref (ad 0 0)), (1, va_rf (pt (ad 2) (f)))] from by first | rfl | simp [lv_args, cat_rf, cat_i, cat_l, cat_r]]
  refine j_iconst X (a := 0) dX3_countAtStake_0 (q := 1) rfl ?_
  refine j_istore_n X (i := 2) dX3_countAtStake_1 rfl (by decide) (q := 2) rfl (lv' := [(2, .int (iI (0))), (0, .ref (ad 0 0)), (1, va_rf (pt (ad 2) (f)))]) (by first | rfl | simp [cat_rf, cat_i, cat_l, cat_r]) ?_
  refine j_iconst X (a := 0) dX3_countAtStake_2 (q := 3) rfl ?_
  refine j_istore_n X (i := 3) dX3_countAtStake_3 rfl (by decide) (q := 4) rfl (lv' := [(3, .int (iI (0))), (2, .int (iI (0))), (0, .ref (ad 0 0)), (1, va_rf (pt (ad 2) (f)))]) (by first | rfl | simp [cat_rf, cat_i, cat_l, cat_r]) ?_
  have loop : ∀ (kk : Nat) (i acc : Int), (0 ≤ i ∧ i ≤ nm) → (0 ≤ acc ∧ acc ≤ i) → (nm - i).toNat = kk → acc = sm (stk S f) i.toNat → J p l e (Rm 2 0 0) s m args below meth c (vx_MQ below (Qn D base (fun v w' => v = some (.int (iI (sm (stk S f) nm.toNat))) ∧ w = w')) (Xn D base (fun _ _ => False)) args s 0 0 (fun q => base ≤ q)) D base 4 0 0 4 [(0, .ref (ad 0 0)), (1, va_rf (pt (ad 2) (f))), (2, .int (iI (acc))), (3, .int (iI (i)))] [] w := by
    intro kk
    induction kk using Nat.strongRecOn with
    | ind kk ih =>
      intro i acc hi hac hkk hv
      refine j_iload_n X dX3_countAtStake_4 (q := 5) rfl 3 rfl ?_
      refine j_aload_n X dX3_countAtStake_5 (q := 6) rfl 0 rfl ?_
      refine j_get X (v := .int (iI (S 4 0))) fl_X3_113 hC.cal rfl dX3_countAtStake_6 (q := 9) rfl ?_
      refine j_icmp_ge X (tgt := 44) dX3_countAtStake_9 (by decide) (q := 12) rfl (by omega) (by omega) (fun c_9 => ?_) (fun c_9 => ?_)
      · skip
        refine j_iload_n X dX3_countAtStake_44 (q := 45) rfl 2 rfl ?_
        exact j_iret X rfl dX3_countAtStake_45 (⟨by rw [hv, show i = nm by omega], rfl⟩) (by decide) (by decide)
      · skip
        refine j_iload_n X dX3_countAtStake_12 (q := 13) rfl 3 rfl ?_
        refine j_aload_n X dX3_countAtStake_13 (q := 14) rfl 0 rfl ?_
        refine j_get X (v := .ref (ad 0 2)) fl_X3_17 hC.cal rfl dX3_countAtStake_14 (q := 17) rfl ?_
        refine j_alen X (t := 3) (N := 200) rfl hC.made rfl dX3_countAtStake_17 (q := 18) rfl ?_
        refine j_icmp_ge X (tgt := 44) dX3_countAtStake_18 (by decide) (q := 21) rfl (by omega) (by omega) (fun c_18 => ?_) (fun c_18 => ?_)
        · skip
          exact absurd c_18 (by omega)
        · skip
          refine j_aload_n X dX3_countAtStake_21 (q := 22) rfl 0 rfl ?_
          refine j_aload_n X dX3_countAtStake_22 (q := 23) rfl 0 rfl ?_
          refine j_get X (v := .ref (ad 0 2)) fl_X3_17 hC.cal rfl dX3_countAtStake_23 (q := 26) rfl ?_
          refine j_iload_n X dX3_countAtStake_26 (q := 27) rfl 3 rfl ?_
          refine j_aald X (t := 3) (i := i) rfl hC.made (by omega) (by decide) dX3_countAtStake_27 (q := 28) rfl ?_
          rw [rw_ptin (ad := ad 3) (c := S 4 0) (i := i) (by omega) (by omega)]
          refine j_aloadq_n X dX3_countAtStake_28 (q := 29) rfl 1 rfl ?_
          refine j_callV X (As := [va_rf (pt (ad 3) (i)), va_rf (pt (ad 2) (f))]) (st := []) hC.cal rfl (c_X3_isAtStake hlt hC hI i f ⟨hi.1, by omega⟩ hf) sv_X3_242 (by decide) rfl (by first | decide | simp [cat_rf, cat_i, cat_l, cat_r]) dX3_countAtStake_29 (by decide) (fun _ _ h => h.elim) ?_
          rintro v9 w9 ⟨rfl, rfl⟩
          refine j_st (st := [.int (iI (stk S f i))]) ?_
          have hb9 := stk_b S f i
          refine j_if_eq X (tgt := 38) dX3_countAtStake_32 (by decide) (q := 35) rfl (by omega) (fun c_32 => ?_) (fun c_32 => ?_)
          · skip
            refine j_iinc X dX3_countAtStake_38 3 rfl (by decide) (q := 41) rfl (lv' := [(3, .int (iI (i + 1))), (0, .ref (ad 0 0)), (1, va_rf (pt (ad 2) (f))), (2, .int (iI (acc)))]) (by first | rfl | simp [cat_rf, cat_i, cat_l, cat_r]) ?_
            refine j_goto X (tgt := 4) dX3_countAtStake_41 (by decide) ?_
            exact j_lv (ih ((nm - (i + 1)).toNat) (by omega) (i + 1) _ (by omega) (by omega) rfl (by rw [sm_s hi.1]; omega)) [1, 2, 3, 0] rfl
          · skip
            refine j_iinc X dX3_countAtStake_35 2 rfl (by decide) (q := 38) rfl (lv' := [(2, .int (iI (acc + 1))), (0, .ref (ad 0 0)), (1, va_rf (pt (ad 2) (f))), (3, .int (iI (i)))]) (by first | rfl | simp [cat_rf, cat_i, cat_l, cat_r]) ?_
            refine j_iinc X dX3_countAtStake_38 3 rfl (by decide) (q := 41) rfl (lv' := [(3, .int (iI (i + 1))), (2, .int (iI (acc + 1))), (0, .ref (ad 0 0)), (1, va_rf (pt (ad 2) (f)))]) (by first | rfl | simp [cat_rf, cat_i, cat_l, cat_r]) ?_
            refine j_goto X (tgt := 4) dX3_countAtStake_41 (by decide) ?_
            exact j_lv (ih ((nm - (i + 1)).toNat) (by omega) (i + 1) _ (by omega) (by omega) rfl (by rw [sm_s hi.1]; omega)) [2, 3, 1, 0] rfl
  exact j_lv (loop _ 0 0 (by omega) (by decide) rfl rfl) [2, 3, 1, 0] rfl

set_option maxRecDepth 100000 in
set_option maxHeartbeats 4000000 in
theorem c_X3_atStake {l : Launch} (hlt : l.stackTraces = false) {D : va_G} {ca : Nat → ClassId} {base : Nat} {ad : Nat → Int → Nat} {n nc nm : Int} {S : St} {w : Wd} (hC : CW base ca ad n nc nm S w) (hI : IC n nc nm S) (z : Int) (hz : -2147483648 ≤ z ∧ z ≤ 2147483647) : CT l D ca base yX3_atStake cX3_atStake 3 (some .int) 3 1 6 [.ref (ad 0 0), .int (iI (z))] w (fun v w' => (0 ≤ z ∧ z < n) ∧ v = some (.int (iI (if S 15 z < 0 then 0 else sm (stk S (S 15 z)) nm.toNat))) ∧ w = w') (fun E w' => ¬ (0 ≤ z ∧ z < n) ∧ E = nIO ∧ w = w') := by
  obtain ⟨hn, hnc, hnm, e3, e4, e5, h6, h7, h8⟩ := hI.top
  refine CT.mk hlt (by decide +kernel) (by first | exact Nat.le_of_ble_eq_true rfl | simp [lg_sl, cat_rf, cat_i, cat_l, cat_r]) ?_
  intro p e s m args below meth c X htab
  rw [show lv_args 0 [.ref (ad 0 0), .int (iI (z))] = [(0, .ref (ad 0 0)), (1, .int (iI (z)))] from by first | rfl | simp [lv_args, cat_rf, cat_i, cat_l, cat_r]]
  refine j_aload_n X dX3_atStake_0 (q := 1) rfl 0 rfl ?_
  refine j_iload_n X dX3_atStake_1 (q := 2) rfl 1 rfl ?_
  refine j_callV X (As := [.int (iI (z))]) (st := []) hC.cal rfl (c_X3_known hlt hC hI z hz) sv_X3_54 (by decide) rfl (by first | decide | simp [cat_rf, cat_i, cat_l, cat_r]) dX3_atStake_2 (by decide) (fun E w' h => jx_out X htab h (by decide) (by decide)) ?_
  rintro v9 w9 ⟨k1, rfl, rfl⟩
  refine j_st (st := [va_rf (pt (ad 1) (z))]) ?_
  obtain ⟨f_3_0, f_3_1, f_3_2, f_3_3, f_3_4, f_3_5, f_3_6, f_3_7, f_3_8⟩ := hI.ins k1.1 k1.2
  refine j_astoreq_n X (i := 2) dX3_atStake_5 rfl (by decide) (q := 6) rfl (lv' := [(2, va_rf (pt (ad 1) (z))), (0, .ref (ad 0 0)), (1, .int (iI (z)))]) (by first | rfl | simp [cat_rf, cat_i, cat_l, cat_r]) ?_
  refine j_aloadq_n X dX3_atStake_6 (q := 7) rfl 0 rfl ?_
  refine j_getp X (v := va_rf (pt (ad 2) (S 15 z))) fl_X3_95 k1.1 (hC.ins k1.1 k1.2) rfl dX3_atStake_7 (q := 10) rfl ?_
  refine j_ifnonnullp X (tgt := 17) dX3_atStake_10 (by decide) (q := 13) rfl (fun c_10 => ?_) (fun c_10 => ?_)
  · skip
    obtain ⟨f_4_0, f_4_1, f_4_2, f_4_3, f_4_4, f_4_5, f_4_6, f_4_7, f_4_8, f_4_9⟩ := hI.kal c_10 (by omega)
    refine j_aload_n X dX3_atStake_17 (q := 18) rfl 1 rfl ?_
    refine j_aloadq_n X dX3_atStake_18 (q := 19) rfl 0 rfl ?_
    refine j_getp X (v := va_rf (pt (ad 2) (S 15 z))) fl_X3_95 k1.1 (hC.ins k1.1 k1.2) rfl dX3_atStake_19 (q := 22) rfl ?_
    refine j_callV X (As := [va_rf (pt (ad 2) (S 15 z))]) (st := []) hC.cal rfl (c_X3_countAtStake hlt hC hI (S 15 z) ⟨c_10, by omega⟩) sv_X3_231 (by decide) rfl (by first | decide | simp [cat_rf, cat_i, cat_l, cat_r]) dX3_atStake_22 (by decide) (fun _ _ h => h.elim) ?_
    rintro v9 w9 ⟨rfl, rfl⟩
    refine j_st (st := [.int (iI (sm (stk S (S 15 z)) nm.toNat))]) ?_
    exact j_iret X rfl dX3_atStake_25 (⟨k1, by rw [if_neg (by omega)], rfl⟩) (by decide) (by decide)
  · skip
    refine j_iconst X (a := 0) dX3_atStake_13 (q := 14) rfl ?_
    refine j_goto X (tgt := 25) dX3_atStake_14 (by decide) ?_
    exact j_iret X rfl dX3_atStake_25 (⟨k1, by rw [if_pos c_10], rfl⟩) (by decide) (by decide)

set_option maxRecDepth 100000 in
set_option maxHeartbeats 4000000 in
theorem c_X3_logRecalls {l : Launch} (hlt : l.stackTraces = false) {D : va_G} {ca : Nat → ClassId} {base : Nat} {ad : Nat → Int → Nat} {n nc nm : Int} {S : St} {w : Wd} (hC : CW base ca ad n nc nm S w) (hI : IC n nc nm S) (k : Int) (hk : 0 ≤ k ∧ k < nm) : CT l D ca base yX3_logRecalls cX3_logRecalls 4 (some .boolean) 1 0 0 [.ref (ad 0 0), va_rf (pt (ad 3) (k))] w (fun v w' => v = some (.int (iI (lrc S k (S 5 0).toNat))) ∧ w = w') (fun _ _ => False) := by
  obtain ⟨hn, hnc, hnm, e3, e4, e5, h6, h7, h8⟩ := hI.top
  refine CT.mk hlt (by decide +kernel) (by first | exact Nat.le_of_ble_eq_true rfl | simp [lg_sl, cat_rf, cat_i, cat_l, cat_r]) ?_
  intro p e s m args below meth c X htab
  rw [show lv_args 0 [.ref (ad 0 0), va_rf (pt (ad 3) (k))] = [(0, .ref (ad 0 0)), (1, va_rf (pt (ad 3) (k)))] from by first | rfl | simp [lv_args, cat_rf, cat_i, cat_l, cat_r]]
  obtain ⟨f_5_0, f_5_1, f_5_2⟩ := hI.mea hk.1 hk.2
  refine j_iconst X (a := 0) dX3_logRecalls_0 (q := 1) rfl ?_
  refine j_istore_n X (i := 2) dX3_logRecalls_1 rfl (by decide) (q := 2) rfl (lv' := [(2, .int (iI (0))), (0, .ref (ad 0 0)), (1, va_rf (pt (ad 3) (k)))]) (by first | rfl | simp [cat_rf, cat_i, cat_l, cat_r]) ?_
  have loop : ∀ (kk : Nat) (i : Int), (0 ≤ i ∧ i ≤ S 5 0) → (S 5 0 - i).toNat = kk → lrc S k i.toNat = 0 → J p l e (Rm 1 0 0) s m args below meth c (vx_MQ below (Qn D base (fun v w' => v = some (.int (iI (lrc S k (S 5 0).toNat))) ∧ w = w')) (Xn D base (fun _ _ => False)) args s 0 0 (fun q => base ≤ q)) D base 4 0 0 2 [(0, .ref (ad 0 0)), (1, va_rf (pt (ad 3) (k))), (2, .int (iI (i)))] [] w := by
    intro kk
    induction kk using Nat.strongRecOn with
    | ind kk ih =>
      intro i hi hkk hv
      refine j_iload_n X dX3_logRecalls_2 (q := 3) rfl 2 rfl ?_
      refine j_aload_n X dX3_logRecalls_3 (q := 4) rfl 0 rfl ?_
      refine j_get X (v := .int (iI (S 5 0))) fl_X3_92 hC.cal rfl dX3_logRecalls_4 (q := 7) rfl ?_
      refine j_icmp_ge X (tgt := 74) dX3_logRecalls_7 (by decide) (q := 10) rfl (by omega) (by omega) (fun c_7 => ?_) (fun c_7 => ?_)
      · skip
        refine j_iconst X (a := 0) dX3_logRecalls_74 (q := 75) rfl ?_
        exact j_zret X rfl (Or.inl rfl) dX3_logRecalls_75 (⟨by rw [show S 5 0 = i by omega, hv], rfl⟩) (by decide) (by decide)
      · skip
        refine j_iload_n X dX3_logRecalls_10 (q := 11) rfl 2 rfl ?_
        refine j_aload_n X dX3_logRecalls_11 (q := 12) rfl 0 rfl ?_
        refine j_get X (v := .ref (ad 0 3)) fl_X3_23 hC.cal rfl dX3_logRecalls_12 (q := 15) rfl ?_
        refine j_alen X (t := 4) (N := 512) rfl hC.log rfl dX3_logRecalls_15 (q := 16) rfl ?_
        refine j_icmp_ge X (tgt := 74) dX3_logRecalls_16 (by decide) (q := 19) rfl (by omega) (by omega) (fun c_16 => ?_) (fun c_16 => ?_)
        · skip
          exact absurd c_16 (by omega)
        · skip
          refine j_aload_n X dX3_logRecalls_19 (q := 20) rfl 0 rfl ?_
          refine j_get X (v := .ref (ad 0 3)) fl_X3_23 hC.cal rfl dX3_logRecalls_20 (q := 23) rfl ?_
          refine j_iload_n X dX3_logRecalls_23 (q := 24) rfl 2 rfl ?_
          refine j_aald X (t := 4) (i := i) rfl hC.log (by omega) (by decide) dX3_logRecalls_24 (q := 25) rfl ?_
          rw [rw_ptin (ad := ad 2) (c := S 5 0) (i := i) (by omega) (by omega)]
          refine j_astoreq_n X (i := 3) dX3_logRecalls_25 rfl (by decide) (q := 26) rfl (lv' := [(3, va_rf (pt (ad 2) (i))), (0, .ref (ad 0 0)), (1, va_rf (pt (ad 3) (k))), (2, .int (iI (i)))]) (by first | rfl | simp [cat_rf, cat_i, cat_l, cat_r]) ?_
          refine j_aloadq_n X dX3_logRecalls_26 (q := 27) rfl 0 rfl ?_
          refine j_ifnullp X (tgt := 68) dX3_logRecalls_27 (by decide) (q := 30) rfl (fun c_27 => ?_) (fun c_27 => ?_)
          · skip
            exact absurd c_27 (by omega)
          · skip
            obtain ⟨f_6_0, f_6_1, f_6_2, f_6_3, f_6_4, f_6_5, f_6_6, f_6_7, f_6_8, f_6_9⟩ := hI.kal c_27 (by omega)
            refine j_aloadq_n X dX3_logRecalls_30 (q := 31) rfl 0 rfl ?_
            refine j_getp X (v := .int (iI (S 25 i))) fl_X3_132 c_27 (hC.kal c_27 (by omega)) rfl dX3_logRecalls_31 (q := 34) rfl ?_
            refine j_if_eq X (tgt := 68) dX3_logRecalls_34 (by decide) (q := 37) rfl (by omega) (fun c_34 => ?_) (fun c_34 => ?_)
            · skip
              refine j_iinc X dX3_logRecalls_68 3 rfl (by decide) (q := 71) rfl (lv' := [(2, .int (iI (i + 1))), (3, va_rf (pt (ad 2) (i))), (0, .ref (ad 0 0)), (1, va_rf (pt (ad 3) (k)))]) (by first | rfl | simp [cat_rf, cat_i, cat_l, cat_r]) ?_
              refine j_goto X (tgt := 2) dX3_logRecalls_71 (by decide) ?_
              exact j_lv (ih ((S 5 0 - (i + 1)).toNat) (by omega) (i + 1) (by omega) rfl (by rw [lrc_s hi.1 hv]; exact tf_f (by omega))) [2, 3, 0] rfl
            · skip
              refine j_aloadq_n X dX3_logRecalls_37 (q := 38) rfl 0 rfl ?_
              refine j_getp X (v := .int (iI (S 20 i))) fl_X3_161 c_27 (hC.kal c_27 (by omega)) rfl dX3_logRecalls_38 (q := 41) rfl ?_
              refine j_aloadq_n X dX3_logRecalls_41 (q := 42) rfl 2 rfl ?_
              refine j_getp X (v := .int (iI (S 30 k))) fl_X3_246 hk.1 (hC.mea hk.1 hk.2) rfl dX3_logRecalls_42 (q := 45) rfl ?_
              refine j_icmp_le X (tgt := 68) dX3_logRecalls_45 (by decide) (q := 48) rfl (by omega) (by omega) (fun c_45 => ?_) (fun c_45 => ?_)
              · skip
                refine j_iinc X dX3_logRecalls_68 3 rfl (by decide) (q := 71) rfl (lv' := [(2, .int (iI (i + 1))), (3, va_rf (pt (ad 2) (i))), (0, .ref (ad 0 0)), (1, va_rf (pt (ad 3) (k)))]) (by first | rfl | simp [cat_rf, cat_i, cat_l, cat_r]) ?_
                refine j_goto X (tgt := 2) dX3_logRecalls_71 (by decide) ?_
                exact j_lv (ih ((S 5 0 - (i + 1)).toNat) (by omega) (i + 1) (by omega) rfl (by rw [lrc_s hi.1 hv]; exact tf_f (by omega))) [2, 3, 0] rfl
              · skip
                refine j_aloadq_n X dX3_logRecalls_48 (q := 49) rfl 2 rfl ?_
                refine j_getp X (v := va_rf (pt (ad 2) (S 31 k))) fl_X3_237 hk.1 (hC.mea hk.1 hk.2) rfl dX3_logRecalls_49 (q := 52) rfl ?_
                refine j_aloadq_n X dX3_logRecalls_52 (q := 53) rfl 0 rfl ?_
                refine j_getp X (v := va_rf (pt (ad 2) (S 23 i))) fl_X3_179 c_27 (hC.kal c_27 (by omega)) rfl dX3_logRecalls_53 (q := 56) rfl ?_
                refine j_aloadq_n X dX3_logRecalls_56 (q := 57) rfl 0 rfl ?_
                refine j_getp X (v := .int (iI (S 20 i))) fl_X3_161 c_27 (hC.kal c_27 (by omega)) rfl dX3_logRecalls_57 (q := 60) rfl ?_
                refine j_callS X (As := [va_rf (pt (ad 2) (S 31 k)), va_rf (pt (ad 2) (S 23 i)), .int (iI (S 20 i))]) (st := [])  (c_X3_restsOn hlt hC hI (S 31 k) (S 23 i) (S 20 i) (by omega) (by omega) (by omega)) ss_X3_238 (by decide) rfl (by first | decide | simp [cat_rf, cat_i, cat_l, cat_r]) dX3_logRecalls_60 (by decide) (fun _ _ h => h.elim) ?_
                rintro v9 w9 ⟨rfl, rfl⟩
                refine j_st (st := [.int (iI (rst S (S 23 i) (S 20 i) 513 (S 31 k)))]) ?_
                have hb9 := rst_b S (S 23 i) (S 20 i) 513 (S 31 k)
                refine j_if_eq X (tgt := 68) dX3_logRecalls_63 (by decide) (q := 66) rfl (by omega) (fun c_63 => ?_) (fun c_63 => ?_)
                · skip
                  refine j_iinc X dX3_logRecalls_68 3 rfl (by decide) (q := 71) rfl (lv' := [(2, .int (iI (i + 1))), (3, va_rf (pt (ad 2) (i))), (0, .ref (ad 0 0)), (1, va_rf (pt (ad 3) (k)))]) (by first | rfl | simp [cat_rf, cat_i, cat_l, cat_r]) ?_
                  refine j_goto X (tgt := 2) dX3_logRecalls_71 (by decide) ?_
                  exact j_lv (ih ((S 5 0 - (i + 1)).toNat) (by omega) (i + 1) (by omega) rfl (by rw [lrc_s hi.1 hv]; exact tf_f (by omega))) [2, 3, 0] rfl
                · skip
                  refine j_iconst X (a := 1) dX3_logRecalls_66 (q := 67) rfl ?_
                  exact j_zret X rfl (Or.inr rfl) dX3_logRecalls_67 (⟨by rw [lrc_to (c := S 5 0) hi.1 (by omega) hv (tf_t (by omega))], rfl⟩) (by decide) (by decide)
  exact j_lv (loop _ 0 (by omega) rfl rfl) [1, 2, 0] rfl

set_option maxRecDepth 100000 in
set_option maxHeartbeats 4000000 in
theorem c_X3_calledBackByLog {l : Launch} (hlt : l.stackTraces = false) {D : va_G} {ca : Nat → ClassId} {base : Nat} {ad : Nat → Int → Nat} {n nc nm : Int} {S : St} {w : Wd} (hC : CW base ca ad n nc nm S w) (hI : IC n nc nm S) : CT l D ca base yX3_calledBackByLog cX3_calledBackByLog 3 (some .int) 2 0 0 [.ref (ad 0 0)] w (fun v w' => v = some (.int (iI (sm (fun i => lrc S i (S 5 0).toNat) nm.toNat))) ∧ w = w') (fun _ _ => False) := by
  obtain ⟨hn, hnc, hnm, e3, e4, e5, h6, h7, h8⟩ := hI.top
  refine CT.mk hlt (by decide +kernel) (by first | exact Nat.le_of_ble_eq_true rfl | simp [lg_sl, cat_rf, cat_i, cat_l, cat_r]) ?_
  intro p e s m args below meth c X htab
  rw [show lv_args 0 [.ref (ad 0 0)] = [(0, .ref (ad 0 0))] from by first | rfl | simp [lv_args, cat_rf, cat_i, cat_l, cat_r]]
  refine j_iconst X (a := 0) dX3_calledBackByLog_0 (q := 1) rfl ?_
  refine j_istore_n X (i := 1) dX3_calledBackByLog_1 rfl (by decide) (q := 2) rfl (lv' := [(1, .int (iI (0))), (0, .ref (ad 0 0))]) (by first | rfl | simp [cat_rf, cat_i, cat_l, cat_r]) ?_
  refine j_iconst X (a := 0) dX3_calledBackByLog_2 (q := 3) rfl ?_
  refine j_istore_n X (i := 2) dX3_calledBackByLog_3 rfl (by decide) (q := 4) rfl (lv' := [(2, .int (iI (0))), (1, .int (iI (0))), (0, .ref (ad 0 0))]) (by first | rfl | simp [cat_rf, cat_i, cat_l, cat_r]) ?_
  have loop : ∀ (kk : Nat) (i acc : Int), (0 ≤ i ∧ i ≤ nm) → (0 ≤ acc ∧ acc ≤ i) → (nm - i).toNat = kk → acc = sm (fun i => lrc S i (S 5 0).toNat) i.toNat → J p l e (Rm 2 0 0) s m args below meth c (vx_MQ below (Qn D base (fun v w' => v = some (.int (iI (sm (fun i => lrc S i (S 5 0).toNat) nm.toNat))) ∧ w = w')) (Xn D base (fun _ _ => False)) args s 0 0 (fun q => base ≤ q)) D base 3 0 0 4 [(0, .ref (ad 0 0)), (1, .int (iI (acc))), (2, .int (iI (i)))] [] w := by
    intro kk
    induction kk using Nat.strongRecOn with
    | ind kk ih =>
      intro i acc hi hac hkk hv
      refine j_iload_n X dX3_calledBackByLog_4 (q := 5) rfl 2 rfl ?_
      refine j_aload_n X dX3_calledBackByLog_5 (q := 6) rfl 0 rfl ?_
      refine j_get X (v := .int (iI (S 4 0))) fl_X3_113 hC.cal rfl dX3_calledBackByLog_6 (q := 9) rfl ?_
      refine j_icmp_ge X (tgt := 52) dX3_calledBackByLog_9 (by decide) (q := 12) rfl (by omega) (by omega) (fun c_9 => ?_) (fun c_9 => ?_)
      · skip
        refine j_iload_n X dX3_calledBackByLog_52 (q := 53) rfl 1 rfl ?_
        exact j_iret X rfl dX3_calledBackByLog_53 (⟨by rw [hv, show i = nm by omega], rfl⟩) (by decide) (by decide)
      · skip
        refine j_iload_n X dX3_calledBackByLog_12 (q := 13) rfl 2 rfl ?_
        refine j_aload_n X dX3_calledBackByLog_13 (q := 14) rfl 0 rfl ?_
        refine j_get X (v := .ref (ad 0 2)) fl_X3_17 hC.cal rfl dX3_calledBackByLog_14 (q := 17) rfl ?_
        refine j_alen X (t := 3) (N := 200) rfl hC.made rfl dX3_calledBackByLog_17 (q := 18) rfl ?_
        refine j_icmp_ge X (tgt := 52) dX3_calledBackByLog_18 (by decide) (q := 21) rfl (by omega) (by omega) (fun c_18 => ?_) (fun c_18 => ?_)
        · skip
          exact absurd c_18 (by omega)
        · skip
          refine j_aload_n X dX3_calledBackByLog_21 (q := 22) rfl 0 rfl ?_
          refine j_get X (v := .ref (ad 0 2)) fl_X3_17 hC.cal rfl dX3_calledBackByLog_22 (q := 25) rfl ?_
          refine j_iload_n X dX3_calledBackByLog_25 (q := 26) rfl 2 rfl ?_
          refine j_aald X (t := 3) (i := i) rfl hC.made (by omega) (by decide) dX3_calledBackByLog_26 (q := 27) rfl ?_
          rw [rw_ptin (ad := ad 3) (c := S 4 0) (i := i) (by omega) (by omega)]
          refine j_ifnullp X (tgt := 46) dX3_calledBackByLog_27 (by decide) (q := 30) rfl (fun c_27 => ?_) (fun c_27 => ?_)
          · skip
            exact absurd c_27 (by omega)
          · skip
            refine j_aload_n X dX3_calledBackByLog_30 (q := 31) rfl 0 rfl ?_
            refine j_aload_n X dX3_calledBackByLog_31 (q := 32) rfl 0 rfl ?_
            refine j_get X (v := .ref (ad 0 2)) fl_X3_17 hC.cal rfl dX3_calledBackByLog_32 (q := 35) rfl ?_
            refine j_iload_n X dX3_calledBackByLog_35 (q := 36) rfl 2 rfl ?_
            refine j_aald X (t := 3) (i := i) rfl hC.made (by omega) (by decide) dX3_calledBackByLog_36 (q := 37) rfl ?_
            rw [rw_ptin (ad := ad 3) (c := S 4 0) (i := i) (by omega) (by omega)]
            refine j_callV X (As := [va_rf (pt (ad 3) (i))]) (st := []) hC.cal rfl (c_X3_logRecalls hlt hC hI i ⟨hi.1, by omega⟩) sv_X3_227 (by decide) rfl (by first | decide | simp [cat_rf, cat_i, cat_l, cat_r]) dX3_calledBackByLog_37 (by decide) (fun _ _ h => h.elim) ?_
            rintro v9 w9 ⟨rfl, rfl⟩
            refine j_st (st := [.int (iI (lrc S i (S 5 0).toNat))]) ?_
            have hb9 := lrc_b S i (S 5 0).toNat
            refine j_if_eq X (tgt := 46) dX3_calledBackByLog_40 (by decide) (q := 43) rfl (by omega) (fun c_40 => ?_) (fun c_40 => ?_)
            · skip
              refine j_iinc X dX3_calledBackByLog_46 2 rfl (by decide) (q := 49) rfl (lv' := [(2, .int (iI (i + 1))), (0, .ref (ad 0 0)), (1, .int (iI (acc)))]) (by first | rfl | simp [cat_rf, cat_i, cat_l, cat_r]) ?_
              refine j_goto X (tgt := 4) dX3_calledBackByLog_49 (by decide) ?_
              exact j_lv (ih ((nm - (i + 1)).toNat) (by omega) (i + 1) _ (by omega) (by omega) rfl (by rw [sm_s hi.1]; omega)) [1, 2, 0] rfl
            · skip
              refine j_iinc X dX3_calledBackByLog_43 1 rfl (by decide) (q := 46) rfl (lv' := [(1, .int (iI (acc + 1))), (0, .ref (ad 0 0)), (2, .int (iI (i)))]) (by first | rfl | simp [cat_rf, cat_i, cat_l, cat_r]) ?_
              refine j_iinc X dX3_calledBackByLog_46 2 rfl (by decide) (q := 49) rfl (lv' := [(2, .int (iI (i + 1))), (1, .int (iI (acc + 1))), (0, .ref (ad 0 0))]) (by first | rfl | simp [cat_rf, cat_i, cat_l, cat_r]) ?_
              refine j_goto X (tgt := 4) dX3_calledBackByLog_49 (by decide) ?_
              exact j_lv (ih ((nm - (i + 1)).toNat) (by omega) (i + 1) _ (by omega) (by omega) rfl (by rw [sm_s hi.1]; omega)) [2, 1, 0] rfl
  exact j_lv (loop _ 0 0 (by omega) (by decide) rfl rfl) [2, 1, 0] rfl

set_option maxRecDepth 100000 in
set_option maxHeartbeats 4000000 in
theorem c_X3_countAhead {l : Launch} (hlt : l.stackTraces = false) {D : va_G} {ca : Nat → ClassId} {base : Nat} {ad : Nat → Int → Nat} {n nc nm : Int} {S : St} {w : Wd} (hC : CW base ca ad n nc nm S w) (hI : IC n nc nm S) (u : Int) (hu : 0 ≤ u ∧ u < n) (hj : 0 ≤ S 15 u) : CT l D ca base yX3_countAhead cX3_countAhead 10 (some .int) 1 0 0 [.ref (ad 0 0), va_rf (pt (ad 1) (u)), va_rf (pt (ad 2) (S 15 u))] w (fun v w' => v = some (.int (iI (ahd S u))) ∧ w = w') (fun _ _ => False) := by
  obtain ⟨hn, hnc, hnm, e3, e4, e5, h6, h7, h8⟩ := hI.top
  refine CT.mk hlt (by decide +kernel) (by first | exact Nat.le_of_ble_eq_true rfl | simp [lg_sl, cat_rf, cat_i, cat_l, cat_r]) ?_
  intro p e s m args below meth c X htab
  rw [show lv_args 0 [.ref (ad 0 0), va_rf (pt (ad 1) (u)), va_rf (pt (ad 2) (S 15 u))] = [(0, .ref (ad 0 0)), (1, va_rf (pt (ad 1) (u))), (2, va_rf (pt (ad 2) (S 15 u)))] from by first | rfl | simp [lv_args, cat_rf, cat_i, cat_l, cat_r]]
  obtain ⟨f_7_0, f_7_1, f_7_2, f_7_3, f_7_4, f_7_5, f_7_6, f_7_7, f_7_8⟩ := hI.ins hu.1 hu.2
  refine j_aloadq_n X dX3_countAhead_0 (q := 1) rfl 1 rfl ?_
  refine j_aloadq_n X dX3_countAhead_1 (q := 2) rfl 2 rfl ?_
  refine j_callS X (As := [va_rf (pt (ad 1) (u)), va_rf (pt (ad 2) (S 15 u))]) (st := [])  (c_X3_dueDay hlt hC hI u (S 15 u) hu ⟨hj, by omega⟩) ss_X3_182 (by decide) rfl (by first | decide | simp [cat_rf, cat_i, cat_l, cat_r]) dX3_countAhead_2 (by decide) (fun _ _ h => h.elim) ?_
  rintro v9 w9 ⟨rfl, rfl⟩
  refine j_st (st := [.int (iI (due S u))]) ?_
  have hdu : 0 ≤ due S u ∧ due S u ≤ 600000 := by
    obtain ⟨a1, a2, -⟩ := hI.kal hj (by omega)
    unfold due; omega
  refine j_istore_n X (i := 3) dX3_countAhead_5 rfl (by decide) (q := 6) rfl (lv' := [(3, .int (iI (due S u))), (0, .ref (ad 0 0)), (1, va_rf (pt (ad 1) (u))), (2, va_rf (pt (ad 2) (S 15 u)))]) (by first | rfl | simp [cat_rf, cat_i, cat_l, cat_r]) ?_
  refine j_iconst X (a := 0) dX3_countAhead_6 (q := 7) rfl ?_
  refine j_istore X (i := 4) dX3_countAhead_7 (by decide) (q := 9) rfl (lv' := [(4, .int (iI (0))), (3, .int (iI (due S u))), (0, .ref (ad 0 0)), (1, va_rf (pt (ad 1) (u))), (2, va_rf (pt (ad 2) (S 15 u)))]) (by first | rfl | simp [cat_rf, cat_i, cat_l, cat_r]) ?_
  refine j_aload_n X dX3_countAhead_9 (q := 10) rfl 2 rfl ?_
  refine j_get X (v := .ref (ad 0 1)) fl_X3_11 hC.cal rfl dX3_countAhead_10 (q := 13) rfl ?_
  refine j_astore X (i := 5) dX3_countAhead_13 (by decide) (q := 15) rfl (lv' := [(5, .ref (ad 0 1)), (4, .int (iI (0))), (3, .int (iI (due S u))), (0, .ref (ad 0 0)), (1, va_rf (pt (ad 1) (u))), (2, va_rf (pt (ad 2) (S 15 u)))]) (by first | rfl | simp [cat_rf, cat_i, cat_l, cat_r]) ?_
  refine j_aload X dX3_countAhead_15 (q := 17) rfl 0 rfl ?_
  refine j_alen X (t := 2) (N := 12) rfl hC.told rfl dX3_countAhead_17 (q := 18) rfl ?_
  refine j_istore X (i := 6) dX3_countAhead_18 (by decide) (q := 20) rfl (lv' := [(6, .int (iI ((12 : Nat)))), (5, .ref (ad 0 1)), (4, .int (iI (0))), (3, .int (iI (due S u))), (0, .ref (ad 0 0)), (1, va_rf (pt (ad 1) (u))), (2, va_rf (pt (ad 2) (S 15 u)))]) (by first | rfl | simp [cat_rf, cat_i, cat_l, cat_r]) ?_
  refine j_iconst X (a := 0) dX3_countAhead_20 (q := 21) rfl ?_
  refine j_istore X (i := 7) dX3_countAhead_21 (by decide) (q := 23) rfl (lv' := [(7, .int (iI (0))), (6, .int (iI ((12 : Nat)))), (5, .ref (ad 0 1)), (4, .int (iI (0))), (3, .int (iI (due S u))), (0, .ref (ad 0 0)), (1, va_rf (pt (ad 1) (u))), (2, va_rf (pt (ad 2) (S 15 u)))]) (by first | rfl | simp [cat_rf, cat_i, cat_l, cat_r]) ?_
  have loop : ∀ (kk : Nat) (i acc : Int), (0 ≤ i ∧ i ≤ 12) → (0 ≤ acc ∧ acc ≤ i) → (12 - i).toNat = kk → acc = sm (ahc S u) i.toNat → J p l e (Rm 1 0 0) s m args below meth c (vx_MQ below (Qn D base (fun v w' => v = some (.int (iI (ahd S u))) ∧ w = w')) (Xn D base (fun _ _ => False)) args s 0 0 (fun q => base ≤ q)) D base 10 0 0 23 [(0, .ref (ad 0 0)), (1, va_rf (pt (ad 1) (u))), (3, .int (iI (due S u))), (4, .int (iI (acc))), (5, .ref (ad 0 1)), (6, .int (iI ((12 : Nat)))), (7, .int (iI (i)))] [] w := by
    intro kk
    induction kk using Nat.strongRecOn with
    | ind kk ih =>
      intro i acc hi hac hkk hv
      refine j_iload X dX3_countAhead_23 (q := 25) rfl 6 rfl ?_
      refine j_iload X dX3_countAhead_25 (q := 27) rfl 5 rfl ?_
      refine j_icmp_ge X (tgt := 95) dX3_countAhead_27 (by decide) (q := 30) rfl (by omega) (by omega) (fun c_27 => ?_) (fun c_27 => ?_)
      · skip
        refine j_iload X dX3_countAhead_95 (q := 97) rfl 3 rfl ?_
        exact j_iret X rfl dX3_countAhead_97 (⟨by rw [hv, show i = 12 by omega]; rfl, rfl⟩) (by decide) (by decide)
      · skip
        refine j_aload X dX3_countAhead_30 (q := 32) rfl 4 rfl ?_
        refine j_iload X dX3_countAhead_32 (q := 34) rfl 6 rfl ?_
        refine j_aald X (t := 2) (i := i) rfl hC.told (by omega) (by decide) dX3_countAhead_34 (q := 35) rfl ?_
        rw [rw_pt (by omega)]
        refine j_astoreq X (i := 8) dX3_countAhead_35 (by decide) (q := 37) rfl (lv' := [(8, va_rf (pt (ad 1) (if i < S 3 0 then i else -1))), (0, .ref (ad 0 0)), (1, va_rf (pt (ad 1) (u))), (3, .int (iI (due S u))), (4, .int (iI (acc))), (5, .ref (ad 0 1)), (6, .int (iI ((12 : Nat)))), (7, .int (iI (i)))]) (by first | rfl | simp [cat_rf, cat_i, cat_l, cat_r]) ?_
        refine j_aloadq X dX3_countAhead_37 (q := 39) rfl 0 rfl ?_
        refine j_ifnullp X (tgt := 89) dX3_countAhead_39 (by decide) (q := 42) rfl (fun c_39 => ?_) (fun c_39 => ?_)
        · skip
          refine j_iinc X dX3_countAhead_89 7 rfl (by decide) (q := 92) rfl (lv' := [(7, .int (iI (i + 1))), (8, va_rf (pt (ad 1) (if i < S 3 0 then i else -1))), (0, .ref (ad 0 0)), (1, va_rf (pt (ad 1) (u))), (3, .int (iI (due S u))), (4, .int (iI (acc))), (5, .ref (ad 0 1)), (6, .int (iI ((12 : Nat))))]) (by first | rfl | simp [cat_rf, cat_i, cat_l, cat_r]) ?_
          refine j_goto X (tgt := 23) dX3_countAhead_92 (by decide) ?_
          exact j_lv (ih ((12 - (i + 1)).toNat) (by omega) (i + 1) _ (by omega) (by omega) rfl (by rw [sm_s hi.1, ahc, tf_f (by split at c_39 <;> omega)]; omega)) [2, 3, 4, 5, 6, 7, 0] rfl
        · skip
          have hin : i < n := by split at c_39 <;> omega
          rw [if_pos (by omega)]
          obtain ⟨f_8_0, f_8_1, f_8_2, f_8_3, f_8_4, f_8_5, f_8_6, f_8_7, f_8_8⟩ := hI.ins hi.1 hin
          refine j_aloadq X dX3_countAhead_42 (q := 44) rfl 0 rfl ?_
          refine j_getp X (v := va_rf (pt (ad 2) (S 15 i))) fl_X3_95 hi.1 (hC.ins hi.1 hin) rfl dX3_countAhead_44 (q := 47) rfl ?_
          refine j_ifnullp X (tgt := 89) dX3_countAhead_47 (by decide) (q := 50) rfl (fun c_47 => ?_) (fun c_47 => ?_)
          · skip
            refine j_iinc X dX3_countAhead_89 7 rfl (by decide) (q := 92) rfl (lv' := [(7, .int (iI (i + 1))), (8, va_rf (pt (ad 1) (i))), (0, .ref (ad 0 0)), (1, va_rf (pt (ad 1) (u))), (3, .int (iI (due S u))), (4, .int (iI (acc))), (5, .ref (ad 0 1)), (6, .int (iI ((12 : Nat))))]) (by first | rfl | simp [cat_rf, cat_i, cat_l, cat_r]) ?_
            refine j_goto X (tgt := 23) dX3_countAhead_92 (by decide) ?_
            exact j_lv (ih ((12 - (i + 1)).toNat) (by omega) (i + 1) _ (by omega) (by omega) rfl (by rw [sm_s hi.1, ahc, tf_f (by omega)]; omega)) [2, 3, 4, 5, 6, 7, 0] rfl
          · skip
            refine j_aloadq X dX3_countAhead_50 (q := 52) rfl 0 rfl ?_
            refine j_aloadq X dX3_countAhead_52 (q := 54) rfl 0 rfl ?_
            refine j_getp X (v := va_rf (pt (ad 2) (S 15 i))) fl_X3_95 hi.1 (hC.ins hi.1 hin) rfl dX3_countAhead_54 (q := 57) rfl ?_
            refine j_callS X (As := [va_rf (pt (ad 1) (i)), va_rf (pt (ad 2) (S 15 i))]) (st := [])  (c_X3_dueDay hlt hC hI i (S 15 i) ⟨hi.1, hin⟩ ⟨c_47, by omega⟩) ss_X3_182 (by decide) rfl (by first | decide | simp [cat_rf, cat_i, cat_l, cat_r]) dX3_countAhead_57 (by decide) (fun _ _ h => h.elim) ?_
            rintro v9 w9 ⟨rfl, rfl⟩
            refine j_st (st := [.int (iI (due S i))]) ?_
            have hdi : 0 ≤ due S i ∧ due S i ≤ 600000 := by
              obtain ⟨a1, a2, -⟩ := hI.kal c_47 (by omega)
              unfold due; omega
            refine j_istore X (i := 9) dX3_countAhead_60 (by decide) (q := 62) rfl (lv' := [(9, .int (iI (due S i))), (8, va_rf (pt (ad 1) (i))), (0, .ref (ad 0 0)), (1, va_rf (pt (ad 1) (u))), (3, .int (iI (due S u))), (4, .int (iI (acc))), (5, .ref (ad 0 1)), (6, .int (iI ((12 : Nat)))), (7, .int (iI (i)))]) (by first | rfl | simp [cat_rf, cat_i, cat_l, cat_r]) ?_
            refine j_iload X dX3_countAhead_62 (q := 64) rfl 0 rfl ?_
            refine j_iload_n X dX3_countAhead_64 (q := 65) rfl 4 rfl ?_
            refine j_icmp_lt X (tgt := 86) dX3_countAhead_65 (by decide) (q := 68) rfl (by omega) (by omega) (fun c_65 => ?_) (fun c_65 => ?_)
            · skip
              refine j_iinc X dX3_countAhead_86 5 rfl (by decide) (q := 89) rfl (lv' := [(4, .int (iI (acc + 1))), (9, .int (iI (due S i))), (8, va_rf (pt (ad 1) (i))), (0, .ref (ad 0 0)), (1, va_rf (pt (ad 1) (u))), (3, .int (iI (due S u))), (5, .ref (ad 0 1)), (6, .int (iI ((12 : Nat)))), (7, .int (iI (i)))]) (by first | rfl | simp [cat_rf, cat_i, cat_l, cat_r]) ?_
              refine j_iinc X dX3_countAhead_89 8 rfl (by decide) (q := 92) rfl (lv' := [(7, .int (iI (i + 1))), (4, .int (iI (acc + 1))), (9, .int (iI (due S i))), (8, va_rf (pt (ad 1) (i))), (0, .ref (ad 0 0)), (1, va_rf (pt (ad 1) (u))), (3, .int (iI (due S u))), (5, .ref (ad 0 1)), (6, .int (iI ((12 : Nat))))]) (by first | rfl | simp [cat_rf, cat_i, cat_l, cat_r]) ?_
              refine j_goto X (tgt := 23) dX3_countAhead_92 (by decide) ?_
              exact j_lv (ih ((12 - (i + 1)).toNat) (by omega) (i + 1) _ (by omega) (by omega) rfl (by rw [sm_s hi.1, ahc, tf_t (by omega)]; omega)) [4, 5, 6, 1, 7, 8, 0] rfl
            · skip
              refine j_iload X dX3_countAhead_68 (q := 70) rfl 0 rfl ?_
              refine j_iload_n X dX3_countAhead_70 (q := 71) rfl 4 rfl ?_
              refine j_icmp_ne X (tgt := 89) dX3_countAhead_71 (by decide) (q := 74) rfl (by omega) (by omega) (fun c_71 => ?_) (fun c_71 => ?_)
              · skip
                refine j_iinc X dX3_countAhead_89 8 rfl (by decide) (q := 92) rfl (lv' := [(7, .int (iI (i + 1))), (9, .int (iI (due S i))), (8, va_rf (pt (ad 1) (i))), (0, .ref (ad 0 0)), (1, va_rf (pt (ad 1) (u))), (3, .int (iI (due S u))), (4, .int (iI (acc))), (5, .ref (ad 0 1)), (6, .int (iI ((12 : Nat))))]) (by first | rfl | simp [cat_rf, cat_i, cat_l, cat_r]) ?_
                refine j_goto X (tgt := 23) dX3_countAhead_92 (by decide) ?_
                exact j_lv (ih ((12 - (i + 1)).toNat) (by omega) (i + 1) _ (by omega) (by omega) rfl (by rw [sm_s hi.1, ahc, tf_f (by omega)]; omega)) [3, 4, 5, 6, 7, 8, 0] rfl
              · skip
                refine j_aloadq X dX3_countAhead_74 (q := 76) rfl 1 rfl ?_
                refine j_getp X (v := .int (iI (S 10 i))) fl_X3_77 hi.1 (hC.ins hi.1 hin) rfl dX3_countAhead_76 (q := 79) rfl ?_
                refine j_aloadq_n X dX3_countAhead_79 (q := 80) rfl 3 rfl ?_
                refine j_getp X (v := .int (iI (S 10 u))) fl_X3_77 hu.1 (hC.ins hu.1 hu.2) rfl dX3_countAhead_80 (q := 83) rfl ?_
                refine j_icmp_ge X (tgt := 89) dX3_countAhead_83 (by decide) (q := 86) rfl (by omega) (by omega) (fun c_83 => ?_) (fun c_83 => ?_)
                · skip
                  refine j_iinc X dX3_countAhead_89 8 rfl (by decide) (q := 92) rfl (lv' := [(7, .int (iI (i + 1))), (9, .int (iI (due S i))), (8, va_rf (pt (ad 1) (i))), (0, .ref (ad 0 0)), (1, va_rf (pt (ad 1) (u))), (3, .int (iI (due S u))), (4, .int (iI (acc))), (5, .ref (ad 0 1)), (6, .int (iI ((12 : Nat))))]) (by first | rfl | simp [cat_rf, cat_i, cat_l, cat_r]) ?_
                  refine j_goto X (tgt := 23) dX3_countAhead_92 (by decide) ?_
                  exact j_lv (ih ((12 - (i + 1)).toNat) (by omega) (i + 1) _ (by omega) (by omega) rfl (by rw [sm_s hi.1, ahc, tf_f (by omega)]; omega)) [3, 4, 5, 6, 7, 8, 0] rfl
                · skip
                  refine j_iinc X dX3_countAhead_86 5 rfl (by decide) (q := 89) rfl (lv' := [(4, .int (iI (acc + 1))), (9, .int (iI (due S i))), (8, va_rf (pt (ad 1) (i))), (0, .ref (ad 0 0)), (1, va_rf (pt (ad 1) (u))), (3, .int (iI (due S u))), (5, .ref (ad 0 1)), (6, .int (iI ((12 : Nat)))), (7, .int (iI (i)))]) (by first | rfl | simp [cat_rf, cat_i, cat_l, cat_r]) ?_
                  refine j_iinc X dX3_countAhead_89 8 rfl (by decide) (q := 92) rfl (lv' := [(7, .int (iI (i + 1))), (4, .int (iI (acc + 1))), (9, .int (iI (due S i))), (8, va_rf (pt (ad 1) (i))), (0, .ref (ad 0 0)), (1, va_rf (pt (ad 1) (u))), (3, .int (iI (due S u))), (5, .ref (ad 0 1)), (6, .int (iI ((12 : Nat))))]) (by first | rfl | simp [cat_rf, cat_i, cat_l, cat_r]) ?_
                  refine j_goto X (tgt := 23) dX3_countAhead_92 (by decide) ?_
                  exact j_lv (ih ((12 - (i + 1)).toNat) (by omega) (i + 1) _ (by omega) (by omega) rfl (by rw [sm_s hi.1, ahc, tf_t (by omega)]; omega)) [4, 5, 6, 1, 7, 8, 0] rfl
  exact j_lv (loop _ 0 0 (by decide) (by decide) rfl rfl) [5, 6, 4, 3, 2, 1, 0] rfl

set_option maxRecDepth 100000 in
set_option maxHeartbeats 4000000 in
theorem c_X3_benchDay {l : Launch} (hlt : l.stackTraces = false) {D : va_G} {ca : Nat → ClassId} {base : Nat} {ad : Nat → Int → Nat} {n nc nm : Int} {S : St} {w : Wd} (hC : CW base ca ad n nc nm S w) (hI : IC n nc nm S) (z : Int) (hz : -2147483648 ≤ z ∧ z ≤ 2147483647) (each : Int) (heach : -2147483648 ≤ each ∧ each ≤ 2147483647) : CT l D ca base yX3_benchDay cX3_benchDay 4 (some .int) 2 2 12 [.ref (ad 0 0), .int (iI (z)), .int (iI (each))] w (fun v w' => ((0 ≤ z ∧ z < n) ∧ (1 ≤ each ∧ each ≤ 12)) ∧ v = some (.int (iI (if S 15 z < 0 then -1 else S 7 0 + (ahd S z).tdiv each))) ∧ w = w') (fun E w' => ((¬ (0 ≤ z ∧ z < n) ∧ E = nIO) ∨ ((0 ≤ z ∧ z < n) ∧ ¬ (1 ≤ each ∧ each ≤ 12) ∧ E = nIA)) ∧ w = w') := by
  obtain ⟨hn, hnc, hnm, e3, e4, e5, h6, h7, h8⟩ := hI.top
  refine CT.mk hlt (by decide +kernel) (by first | exact Nat.le_of_ble_eq_true rfl | simp [lg_sl, cat_rf, cat_i, cat_l, cat_r]) ?_
  intro p e s m args below meth c X htab
  rw [show lv_args 0 [.ref (ad 0 0), .int (iI (z)), .int (iI (each))] = [(0, .ref (ad 0 0)), (1, .int (iI (z))), (2, .int (iI (each)))] from by first | rfl | simp [lv_args, cat_rf, cat_i, cat_l, cat_r]]
  refine j_aload_n X dX3_benchDay_0 (q := 1) rfl 0 rfl ?_
  refine j_iload_n X dX3_benchDay_1 (q := 2) rfl 1 rfl ?_
  refine j_callV X (As := [.int (iI (z))]) (st := []) hC.cal rfl (c_X3_known hlt hC hI z hz) sv_X3_54 (by decide) rfl (by first | decide | simp [cat_rf, cat_i, cat_l, cat_r]) dX3_benchDay_2 (by decide) (fun E w' h => jx_out X htab ⟨Or.inl ⟨h.1, h.2.1⟩, h.2.2⟩ (by decide) (by decide)) ?_
  rintro v9 w9 ⟨k1, rfl, rfl⟩
  refine j_st (st := [va_rf (pt (ad 1) (z))]) ?_
  obtain ⟨f_9_0, f_9_1, f_9_2, f_9_3, f_9_4, f_9_5, f_9_6, f_9_7, f_9_8⟩ := hI.ins k1.1 k1.2
  refine j_astoreq_n X (i := 3) dX3_benchDay_5 rfl (by decide) (q := 6) rfl (lv' := [(3, va_rf (pt (ad 1) (z))), (0, .ref (ad 0 0)), (1, .int (iI (z))), (2, .int (iI (each)))]) (by first | rfl | simp [cat_rf, cat_i, cat_l, cat_r]) ?_
  refine j_iload_n X dX3_benchDay_6 (q := 7) rfl 3 rfl ?_
  refine j_iconst X (a := 1) dX3_benchDay_7 (q := 8) rfl ?_
  refine j_icmp_lt X (tgt := 17) dX3_benchDay_8 (by decide) (q := 11) rfl (by omega) (by omega) (fun c_8 => ?_) (fun c_8 => ?_)
  · skip
    exact j_throw X htab ts_31_247 dX3_benchDay_17 dX3_benchDay_20 dX3_benchDay_21 dX3_benchDay_23 dX3_benchDay_26 (by decide) (by decide) (by decide) (by decide) (⟨Or.inr ⟨k1, by omega, rfl⟩, rfl⟩) (by decide) (by decide)
  · skip
    refine j_iload_n X dX3_benchDay_11 (q := 12) rfl 3 rfl ?_
    refine j_bipush X (a := 12) (by decide +kernel) dX3_benchDay_12 (q := 14) rfl ?_
    refine j_icmp_le X (tgt := 27) dX3_benchDay_14 (by decide) (q := 17) rfl (by omega) (by omega) (fun c_14 => ?_) (fun c_14 => ?_)
    · skip
      refine j_aloadq_n X dX3_benchDay_27 (q := 28) rfl 0 rfl ?_
      refine j_getp X (v := va_rf (pt (ad 2) (S 15 z))) fl_X3_95 k1.1 (hC.ins k1.1 k1.2) rfl dX3_benchDay_28 (q := 31) rfl ?_
      refine j_ifnonnullp X (tgt := 38) dX3_benchDay_31 (by decide) (q := 34) rfl (fun c_31 => ?_) (fun c_31 => ?_)
      · skip
        obtain ⟨f_10_0, f_10_1, f_10_2, f_10_3, f_10_4, f_10_5, f_10_6, f_10_7, f_10_8, f_10_9⟩ := hI.kal c_31 (by omega)
        refine j_aload_n X dX3_benchDay_38 (q := 39) rfl 1 rfl ?_
        refine j_get X (v := .int (iI (S 7 0))) fl_X3_69 hC.cal rfl dX3_benchDay_39 (q := 42) rfl ?_
        refine j_aload_n X dX3_benchDay_42 (q := 43) rfl 1 rfl ?_
        refine j_aloadq_n X dX3_benchDay_43 (q := 44) rfl 0 rfl ?_
        refine j_aloadq_n X dX3_benchDay_44 (q := 45) rfl 0 rfl ?_
        refine j_getp X (v := va_rf (pt (ad 2) (S 15 z))) fl_X3_95 k1.1 (hC.ins k1.1 k1.2) rfl dX3_benchDay_45 (q := 48) rfl ?_
        refine j_callV X (As := [va_rf (pt (ad 1) (z)), va_rf (pt (ad 2) (S 15 z))]) (st := [.int (iI (S 7 0))]) hC.cal rfl (c_X3_countAhead hlt hC hI z k1 c_31) sv_X3_249 (by decide) rfl (by first | decide | simp [cat_rf, cat_i, cat_l, cat_r]) dX3_benchDay_48 (by decide) (fun _ _ h => h.elim) ?_
        rintro v9 w9 ⟨rfl, rfl⟩
        refine j_st (st := [.int (iI (ahd S z)), .int (iI (S 7 0))]) ?_
        have hb9 := ahd_b S z
        refine j_iload_n X dX3_benchDay_51 (q := 52) rfl 3 rfl ?_
        refine j_idiv X (by omega) (by omega) dX3_benchDay_52 (q := 53) rfl ?_
        refine j_iadd X dX3_benchDay_53 (q := 54) rfl ?_
        exact j_iret X rfl dX3_benchDay_54 (⟨⟨k1, by omega⟩, by rw [if_neg (by omega)], rfl⟩) (by decide) (by decide)
      · skip
        refine j_iconst X (a := -1) dX3_benchDay_34 (q := 35) rfl ?_
        refine j_goto X (tgt := 54) dX3_benchDay_35 (by decide) ?_
        exact j_iret X rfl dX3_benchDay_54 (⟨⟨k1, by omega⟩, by rw [if_pos c_31], rfl⟩) (by decide) (by decide)
    · skip
      exact j_throw X htab ts_31_247 dX3_benchDay_17 dX3_benchDay_20 dX3_benchDay_21 dX3_benchDay_23 dX3_benchDay_26 (by decide) (by decide) (by decide) (by decide) (⟨Or.inr ⟨k1, by omega, rfl⟩, rfl⟩) (by decide) (by decide)

set_option maxRecDepth 100000 in
set_option maxHeartbeats 4000000 in
theorem c_X3_late {l : Launch} (hlt : l.stackTraces = false) {D : va_G} {ca : Nat → ClassId} {base : Nat} {ad : Nat → Int → Nat} {n nc nm : Int} {S : St} {w : Wd} (hC : CW base ca ad n nc nm S w) (hI : IC n nc nm S) (z : Int) (hz : -2147483648 ≤ z ∧ z ≤ 2147483647) : CT l D ca base yX3_late cX3_late 7 (some .int) 2 1 6 [.ref (ad 0 0), .int (iI (z))] w (fun v w' => (1 ≤ z ∧ z ≤ 12) ∧ v = some (.int (iI (sm (latc S z) 12))) ∧ w = w') (fun E w' => ¬ (1 ≤ z ∧ z ≤ 12) ∧ E = nIA ∧ w = w') := by
  obtain ⟨hn, hnc, hnm, e3, e4, e5, h6, h7, h8⟩ := hI.top
  refine CT.mk hlt (by decide +kernel) (by first | exact Nat.le_of_ble_eq_true rfl | simp [lg_sl, cat_rf, cat_i, cat_l, cat_r]) ?_
  intro p e s m args below meth c X htab
  rw [show lv_args 0 [.ref (ad 0 0), .int (iI (z))] = [(0, .ref (ad 0 0)), (1, .int (iI (z)))] from by first | rfl | simp [lv_args, cat_rf, cat_i, cat_l, cat_r]]
  refine j_iload_n X dX3_late_0 (q := 1) rfl 1 rfl ?_
  refine j_iconst X (a := 1) dX3_late_1 (q := 2) rfl ?_
  refine j_icmp_lt X (tgt := 11) dX3_late_2 (by decide) (q := 5) rfl (by omega) (by omega) (fun c_2 => ?_) (fun c_2 => ?_)
  · skip
    exact j_throw X htab ts_31_247 dX3_late_11 dX3_late_14 dX3_late_15 dX3_late_17 dX3_late_20 (by decide) (by decide) (by decide) (by decide) (⟨by omega, rfl, rfl⟩) (by decide) (by decide)
  · skip
    refine j_iload_n X dX3_late_5 (q := 6) rfl 1 rfl ?_
    refine j_bipush X (a := 12) (by decide +kernel) dX3_late_6 (q := 8) rfl ?_
    refine j_icmp_le X (tgt := 21) dX3_late_8 (by decide) (q := 11) rfl (by omega) (by omega) (fun c_8 => ?_) (fun c_8 => ?_)
    · skip
      refine j_iconst X (a := 0) dX3_late_21 (q := 22) rfl ?_
      refine j_istore_n X (i := 2) dX3_late_22 rfl (by decide) (q := 23) rfl (lv' := [(2, .int (iI (0))), (0, .ref (ad 0 0)), (1, .int (iI (z)))]) (by first | rfl | simp [cat_rf, cat_i, cat_l, cat_r]) ?_
      refine j_aload_n X dX3_late_23 (q := 24) rfl 1 rfl ?_
      refine j_get X (v := .ref (ad 0 1)) fl_X3_11 hC.cal rfl dX3_late_24 (q := 27) rfl ?_
      refine j_astore_n X (i := 3) dX3_late_27 rfl (by decide) (q := 28) rfl (lv' := [(3, .ref (ad 0 1)), (2, .int (iI (0))), (0, .ref (ad 0 0)), (1, .int (iI (z)))]) (by first | rfl | simp [cat_rf, cat_i, cat_l, cat_r]) ?_
      refine j_aload_n X dX3_late_28 (q := 29) rfl 0 rfl ?_
      refine j_alen X (t := 2) (N := 12) rfl hC.told rfl dX3_late_29 (q := 30) rfl ?_
      refine j_istore X (i := 4) dX3_late_30 (by decide) (q := 32) rfl (lv' := [(4, .int (iI ((12 : Nat)))), (3, .ref (ad 0 1)), (2, .int (iI (0))), (0, .ref (ad 0 0)), (1, .int (iI (z)))]) (by first | rfl | simp [cat_rf, cat_i, cat_l, cat_r]) ?_
      refine j_iconst X (a := 0) dX3_late_32 (q := 33) rfl ?_
      refine j_istore X (i := 5) dX3_late_33 (by decide) (q := 35) rfl (lv' := [(5, .int (iI (0))), (4, .int (iI ((12 : Nat)))), (3, .ref (ad 0 1)), (2, .int (iI (0))), (0, .ref (ad 0 0)), (1, .int (iI (z)))]) (by first | rfl | simp [cat_rf, cat_i, cat_l, cat_r]) ?_
      have hz1 : 1 ≤ z ∧ z ≤ 12 := by omega
      have loop : ∀ (kk : Nat) (i acc : Int), (0 ≤ i ∧ i ≤ 12) → (0 ≤ acc ∧ acc ≤ i) → (12 - i).toNat = kk → acc = sm (latc S z) i.toNat → J p l e (Rm 2 1 6) s m args below meth c (vx_MQ below (Qn D base (fun v w' => (1 ≤ z ∧ z ≤ 12) ∧ v = some (.int (iI (sm (latc S z) 12))) ∧ w = w')) (Xn D base (fun E w' => ¬ (1 ≤ z ∧ z ≤ 12) ∧ E = nIA ∧ w = w')) args s 1 6 (fun q => base ≤ q)) D base 7 0 0 35 [(0, .ref (ad 0 0)), (1, .int (iI (z))), (2, .int (iI (acc))), (3, .ref (ad 0 1)), (4, .int (iI ((12 : Nat)))), (5, .int (iI (i)))] [] w := by
        intro kk
        induction kk using Nat.strongRecOn with
        | ind kk ih =>
          intro i acc hi hac hkk hv
          refine j_iload X dX3_late_35 (q := 37) rfl 5 rfl ?_
          refine j_iload X dX3_late_37 (q := 39) rfl 4 rfl ?_
          refine j_icmp_ge X (tgt := 101) dX3_late_39 (by decide) (q := 42) rfl (by omega) (by omega) (fun c_39 => ?_) (fun c_39 => ?_)
          · skip
            refine j_iload_n X dX3_late_101 (q := 102) rfl 2 rfl ?_
            exact j_iret X rfl dX3_late_102 (⟨hz1, by rw [hv, show i = 12 by omega]; rfl, rfl⟩) (by decide) (by decide)
          · skip
            refine j_aload_n X dX3_late_42 (q := 43) rfl 3 rfl ?_
            refine j_iload X dX3_late_43 (q := 45) rfl 5 rfl ?_
            refine j_aald X (t := 2) (i := i) rfl hC.told (by omega) (by decide) dX3_late_45 (q := 46) rfl ?_
            rw [rw_pt (by omega)]
            refine j_astoreq X (i := 6) dX3_late_46 (by decide) (q := 48) rfl (lv' := [(6, va_rf (pt (ad 1) (if i < S 3 0 then i else -1))), (0, .ref (ad 0 0)), (1, .int (iI (z))), (2, .int (iI (acc))), (3, .ref (ad 0 1)), (4, .int (iI ((12 : Nat)))), (5, .int (iI (i)))]) (by first | rfl | simp [cat_rf, cat_i, cat_l, cat_r]) ?_
            refine j_aloadq X dX3_late_48 (q := 50) rfl 0 rfl ?_
            refine j_ifnullp X (tgt := 95) dX3_late_50 (by decide) (q := 53) rfl (fun c_50 => ?_) (fun c_50 => ?_)
            · skip
              refine j_iinc X dX3_late_95 6 rfl (by decide) (q := 98) rfl (lv' := [(5, .int (iI (i + 1))), (6, va_rf (pt (ad 1) (if i < S 3 0 then i else -1))), (0, .ref (ad 0 0)), (1, .int (iI (z))), (2, .int (iI (acc))), (3, .ref (ad 0 1)), (4, .int (iI ((12 : Nat))))]) (by first | rfl | simp [cat_rf, cat_i, cat_l, cat_r]) ?_
              refine j_goto X (tgt := 35) dX3_late_98 (by decide) ?_
              exact j_lv (ih ((12 - (i + 1)).toNat) (by omega) (i + 1) _ (by omega) (by omega) rfl (by rw [sm_s hi.1, latc, tf_f (by split at c_50 <;> omega)]; omega)) [2, 3, 4, 5, 6, 0] rfl
            · skip
              have hin : i < n := by split at c_50 <;> omega
              rw [if_pos (by omega)]
              obtain ⟨f_11_0, f_11_1, f_11_2, f_11_3, f_11_4, f_11_5, f_11_6, f_11_7, f_11_8⟩ := hI.ins hi.1 hin
              refine j_aloadq X dX3_late_53 (q := 55) rfl 0 rfl ?_
              refine j_getp X (v := va_rf (pt (ad 2) (S 15 i))) fl_X3_95 hi.1 (hC.ins hi.1 hin) rfl dX3_late_55 (q := 58) rfl ?_
              refine j_ifnullp X (tgt := 95) dX3_late_58 (by decide) (q := 61) rfl (fun c_58 => ?_) (fun c_58 => ?_)
              · skip
                refine j_iinc X dX3_late_95 6 rfl (by decide) (q := 98) rfl (lv' := [(5, .int (iI (i + 1))), (6, va_rf (pt (ad 1) (i))), (0, .ref (ad 0 0)), (1, .int (iI (z))), (2, .int (iI (acc))), (3, .ref (ad 0 1)), (4, .int (iI ((12 : Nat))))]) (by first | rfl | simp [cat_rf, cat_i, cat_l, cat_r]) ?_
                refine j_goto X (tgt := 35) dX3_late_98 (by decide) ?_
                exact j_lv (ih ((12 - (i + 1)).toNat) (by omega) (i + 1) _ (by omega) (by omega) rfl (by rw [sm_s hi.1, latc, tf_f (by omega)]; omega)) [2, 3, 4, 5, 6, 0] rfl
              · skip
                refine j_aload_n X dX3_late_61 (q := 62) rfl 1 rfl ?_
                refine j_get X (v := .int (iI (S 7 0))) fl_X3_69 hC.cal rfl dX3_late_62 (q := 65) rfl ?_
                refine j_aload_n X dX3_late_65 (q := 66) rfl 1 rfl ?_
                refine j_aloadq X dX3_late_66 (q := 68) rfl 0 rfl ?_
                refine j_aloadq X dX3_late_68 (q := 70) rfl 0 rfl ?_
                refine j_getp X (v := va_rf (pt (ad 2) (S 15 i))) fl_X3_95 hi.1 (hC.ins hi.1 hin) rfl dX3_late_70 (q := 73) rfl ?_
                refine j_callV X (As := [va_rf (pt (ad 1) (i)), va_rf (pt (ad 2) (S 15 i))]) (st := [.int (iI (S 7 0))]) hC.cal rfl (c_X3_countAhead hlt hC hI i ⟨hi.1, hin⟩ c_58) sv_X3_249 (by decide) rfl (by first | decide | simp [cat_rf, cat_i, cat_l, cat_r]) dX3_late_73 (by decide) (fun _ _ h => h.elim) ?_
                rintro v9 w9 ⟨rfl, rfl⟩
                refine j_st (st := [.int (iI (ahd S i)), .int (iI (S 7 0))]) ?_
                have hb9 := ahd_b S i
                have hb8 := td_r hb9 hz1.1
                refine j_iload_n X dX3_late_76 (q := 77) rfl 2 rfl ?_
                refine j_idiv X (by omega) (by omega) dX3_late_77 (q := 78) rfl ?_
                refine j_iadd X dX3_late_78 (q := 79) rfl ?_
                refine j_aloadq X dX3_late_79 (q := 81) rfl 0 rfl ?_
                refine j_aloadq X dX3_late_81 (q := 83) rfl 0 rfl ?_
                refine j_getp X (v := va_rf (pt (ad 2) (S 15 i))) fl_X3_95 hi.1 (hC.ins hi.1 hin) rfl dX3_late_83 (q := 86) rfl ?_
                refine j_callS X (As := [va_rf (pt (ad 1) (i)), va_rf (pt (ad 2) (S 15 i))]) (st := [.int (iI ((S 7 0) + (Int.tdiv (ahd S i) (z))))])  (c_X3_dueDay hlt hC hI i (S 15 i) ⟨hi.1, hin⟩ ⟨c_58, by omega⟩) ss_X3_182 (by decide) rfl (by first | decide | simp [cat_rf, cat_i, cat_l, cat_r]) dX3_late_86 (by decide) (fun _ _ h => h.elim) ?_
                rintro v9 w9 ⟨rfl, rfl⟩
                refine j_st (st := [.int (iI (due S i)), .int (iI ((S 7 0) + (Int.tdiv (ahd S i) (z))))]) ?_
                have hdi : 0 ≤ due S i ∧ due S i ≤ 600000 := by
                  obtain ⟨a1, a2, -⟩ := hI.kal c_58 (by omega)
                  unfold due; omega
                refine j_icmp_le X (tgt := 95) dX3_late_89 (by decide) (q := 92) rfl (by omega) (by omega) (fun c_89 => ?_) (fun c_89 => ?_)
                · skip
                  refine j_iinc X dX3_late_95 6 rfl (by decide) (q := 98) rfl (lv' := [(5, .int (iI (i + 1))), (6, va_rf (pt (ad 1) (i))), (0, .ref (ad 0 0)), (1, .int (iI (z))), (2, .int (iI (acc))), (3, .ref (ad 0 1)), (4, .int (iI ((12 : Nat))))]) (by first | rfl | simp [cat_rf, cat_i, cat_l, cat_r]) ?_
                  refine j_goto X (tgt := 35) dX3_late_98 (by decide) ?_
                  exact j_lv (ih ((12 - (i + 1)).toNat) (by omega) (i + 1) _ (by omega) (by omega) rfl (by rw [sm_s hi.1, latc, tf_f (by omega)]; omega)) [2, 3, 4, 5, 6, 0] rfl
                · skip
                  refine j_iinc X dX3_late_92 3 rfl (by decide) (q := 95) rfl (lv' := [(2, .int (iI (acc + 1))), (6, va_rf (pt (ad 1) (i))), (0, .ref (ad 0 0)), (1, .int (iI (z))), (3, .ref (ad 0 1)), (4, .int (iI ((12 : Nat)))), (5, .int (iI (i)))]) (by first | rfl | simp [cat_rf, cat_i, cat_l, cat_r]) ?_
                  refine j_iinc X dX3_late_95 6 rfl (by decide) (q := 98) rfl (lv' := [(5, .int (iI (i + 1))), (2, .int (iI (acc + 1))), (6, va_rf (pt (ad 1) (i))), (0, .ref (ad 0 0)), (1, .int (iI (z))), (3, .ref (ad 0 1)), (4, .int (iI ((12 : Nat))))]) (by first | rfl | simp [cat_rf, cat_i, cat_l, cat_r]) ?_
                  refine j_goto X (tgt := 35) dX3_late_98 (by decide) ?_
                  exact j_lv (ih ((12 - (i + 1)).toNat) (by omega) (i + 1) _ (by omega) (by omega) rfl (by rw [sm_s hi.1, latc, tf_t (by omega)]; omega)) [3, 4, 1, 5, 6, 0] rfl
      exact j_lv (loop _ 0 0 (by decide) (by decide) rfl rfl) [4, 5, 3, 2, 1, 0] rfl
    · skip
      exact j_throw X htab ts_31_247 dX3_late_11 dX3_late_14 dX3_late_15 dX3_late_17 dX3_late_20 (by decide) (by decide) (by decide) (by decide) (⟨by omega, rfl, rfl⟩) (by decide) (by decide)
end
section
theorem mul_rng {x d A B : Int} (hx : -A ≤ x ∧ x ≤ A) (hd : 0 ≤ d ∧ d ≤ B) (hA : 0 ≤ A) : -(A * B) ≤ x * d ∧ x * d ≤ A * B := by
  have h1 : x * d ≤ A * d := Int.mul_le_mul_of_nonneg_right hx.2 hd.1
  have h2 : -A * d ≤ x * d := Int.mul_le_mul_of_nonneg_right hx.1 hd.1
  have h3 : A * d ≤ A * B := Int.mul_le_mul_of_nonneg_left hd.2 hA
  rw [Int.neg_mul] at h2
  omega
theorem ediv_rng {x y : Int} (A : Int) (hx : -A ≤ x ∧ x ≤ A) (hy : 1 ≤ y) (hA : 0 ≤ A) : -A - 1 ≤ x / y ∧ x / y ≤ A := by
  have h1 := Int.mul_ediv_add_emod x y
  have h2 := Int.emod_nonneg x (show y ≠ 0 by omega)
  have h3 := Int.emod_lt_of_pos x (show 0 < y by omega)
  constructor
  · refine Int.not_lt.mp fun h => ?_
    have h4 : y * (x / y) ≤ y * (-A - 2) := Int.mul_le_mul_of_nonneg_left (by omega) (by omega)
    have h5 : y * (-A - 2) = -(y * A) - 2 * y := by rw [Int.mul_sub, Int.mul_neg, Int.mul_comm y 2]
    have h6 : A ≤ y * A := by have := Int.mul_le_mul_of_nonneg_right hy hA; omega
    omega
  · refine Int.not_lt.mp fun h => ?_
    have h4 : y * (A + 1) ≤ y * (x / y) := Int.mul_le_mul_of_nonneg_left (by omega) (by omega)
    have h5 : y * (A + 1) = y * A + y := by rw [Int.mul_add, Int.mul_one]
    have h6 : A ≤ y * A := by have := Int.mul_le_mul_of_nonneg_right hy hA; omega
    omega
def errS (S : St) (u j d : Int) : Int := if S 18 u ≤ 0 then S 22 j else S 22 j + S 17 u * d / S 18 u
theorem errS_b {n nc nm : Int} {S : St} (hI : IC n nc nm S) {u j d : Int} (hu : 0 ≤ u ∧ u < n) (hj : 0 ≤ j ∧ j < nc) (hd : 0 ≤ d ∧ d ≤ 9999) : -9000000000000000 ≤ errS S u j d ∧ errS S u j d ≤ 9000000000000000 := by
  obtain ⟨i0, i1, i2, i3, i4, i5, i6, i7, i8⟩ := hI.ins hu.1 hu.2
  obtain ⟨a0, a1, a2, -⟩ := hI.kal hj.1 hj.2
  unfold errS
  split
  · omega
  · have h1 := mul_rng i7 hd (by decide)
    have h2 := ediv_rng (x := S 17 u * d) (y := S 18 u) (900000000000 * 9999) h1 (by omega) (by decide)
    omega
/-- the least whole number whose square is not below x -/
def isRt (x r : Int) : Prop := 0 ≤ r ∧ x ≤ r * r ∧ ∀ t, 0 ≤ t → t < r → t * t < x
theorem isRt_one {x r r' : Int} (h : isRt x r) (h' : isRt x r') : r = r' := by
  rcases Int.lt_trichotomy r r' with c | c | c
  · have := h'.2.2 r h.1 c
    have := h.2.1
    omega
  · exact c
  · have := h.2.2 r' h'.1 c
    have := h'.2.1
    omega
def rtF (x : Int) : Nat → Int → Int
  | 0, r => r
  | k + 1, r => if r * r < x then rtF x k (r + 1) else r
def rt (x : Int) : Int := rtF x 20000 0
theorem rtF_is {x : Int} : ∀ (k : Nat) (r : Int), 0 ≤ r → x ≤ (r + k) * (r + k) → (∀ t, 0 ≤ t → t < r → t * t < x) → isRt x (rtF x k r)
  | 0, r, h0, h1, h2 => ⟨h0, by simpa [rtF] using h1, h2⟩
  | k + 1, r, h0, h1, h2 => by
    rw [rtF]
    split
    · next c =>
      refine rtF_is k (r + 1) (by omega) (by rw [show r + 1 + (k : Int) = r + ((k + 1 : Nat) : Int) by omega]; exact h1) fun t ht0 ht => ?_
      by_cases he : t = r
      · rw [he]; exact c
      · exact h2 t ht0 (by omega)
    · next c => exact ⟨h0, by omega, h2⟩
theorem rt_is {x : Int} (h : x ≤ 400000000) : isRt x (rt x) := rtF_is 20000 0 (by decide) (by omega) (fun t a b => by omega)
theorem rt_of {x r : Int} (h : x ≤ 400000000) (hr : isRt x r) : r = rt x := isRt_one hr (rt_is h)
theorem sq_lt {t r : Int} (h0 : 0 ≤ t) (h : t ≤ r) : t * t ≤ r * r := Int.mul_le_mul h h h0 (by omega)
theorem rt_le {x r : Int} (hx : x ≤ 400000000) (h0 : 0 ≤ r) (h : x ≤ r * r) : 0 ≤ rt x ∧ rt x ≤ r := by
  have := rt_is hx
  refine ⟨this.1, Int.not_lt.mp fun c => ?_⟩
  have := this.2.2 r h0 c
  omega
def unc (ref own : Int → Int) : Nat → Int → Int
  | 0, _ => 0
  | k + 1, u => if u < 0 then 0 else rt (own u * own u + unc ref own k (ref u) * unc ref own k (ref u))
theorem unc_n {ref own : Int → Int} {k : Nat} {u : Int} (h : u < 0) : unc ref own k u = 0 := by
  cases k with
  | zero => rfl
  | succ j => simp [unc, h]
theorem unc_s {ref own : Int → Int} {k : Nat} {u : Int} (h : 0 ≤ u) : unc ref own (k + 1) u = rt (own u * own u + unc ref own k (ref u) * unc ref own k (ref u)) := by rw [unc, if_neg (by omega)]
theorem sq_add {a b : Int} (ha : 0 ≤ a) (hb : 0 ≤ b) : a * a + b * b ≤ (a + b) * (a + b) := by
  have : 0 ≤ a * b := Int.mul_nonneg ha hb
  have e : (a + b) * (a + b) = a * a + b * b + 2 * (a * b) := by rw [Int.add_mul, Int.mul_add, Int.mul_add, Int.mul_comm b a]; omega
  omega
theorem sq_r {a A : Int} (h : 0 ≤ a ∧ a ≤ A) : 0 ≤ a * a ∧ a * a ≤ A * A := ⟨Int.mul_nonneg h.1 h.1, Int.mul_le_mul h.2 h.2 h.1 (by omega)⟩
theorem unc_b {ref own : Int → Int} {n : Int} (hr : ∀ i, 0 ≤ i → i < n → (-1 ≤ ref i ∧ ref i < n) ∧ (0 ≤ own i ∧ own i ≤ 999)) : ∀ (k : Nat) (u : Int), k ≤ 12 → -1 ≤ u → u < n → 0 ≤ unc ref own k u ∧ unc ref own k u ≤ 999 * k
  | 0, _, _, _, _ => by simp [unc]
  | k + 1, u, hk, h0, h1 => by
    by_cases hu : u < 0
    · rw [unc_n hu]; omega
    · obtain ⟨h2, h3⟩ := hr u (by omega) h1
      have h4 := unc_b hr k (ref u) (by omega) h2.1 h2.2
      rw [unc_s (by omega)]
      have h5 := sq_r h3
      have h6 := sq_r (A := 12000) (show 0 ≤ unc ref own k (ref u) ∧ unc ref own k (ref u) ≤ 12000 by omega)
      have h7 := sq_add h3.1 h4.1
      have h8 := rt_le (by omega) (by omega) h7
      omega
set_option maxRecDepth 100000 in
set_option maxHeartbeats 4000000 in
theorem c_X3_errorAfter {l : Launch} (hlt : l.stackTraces = false) {D : va_G} {ca : Nat → ClassId} {base : Nat} {ad : Nat → Int → Nat} {n nc nm : Int} {S : St} {w : Wd} (hC : CW base ca ad n nc nm S w) (hI : IC n nc nm S) (u j d : Int) (hu : 0 ≤ u ∧ u < n) (hj : 0 ≤ j ∧ j < nc) (hd : 0 ≤ d ∧ d ≤ 9999) : CT l D ca base yX3_errorAfter cX3_errorAfter 3 (some .long) 1 0 0 [va_rf (pt (ad 1) (u)), va_rf (pt (ad 2) (j)), .int (iI (d))] w (fun v w' => v = some (.long (iL (errS S u j d))) ∧ w = w') (fun _ _ => False) := by
  obtain ⟨hn, hnc, hnm, e3, e4, e5, h6, h7, h8⟩ := hI.top
  refine CT.mk hlt (by decide +kernel) (by first | exact Nat.le_of_ble_eq_true rfl | simp [lg_sl, cat_rf, cat_i, cat_l, cat_r]) ?_
  intro p e s m args below meth c X htab
  rw [show lv_args 0 [va_rf (pt (ad 1) (u)), va_rf (pt (ad 2) (j)), .int (iI (d))] = [(0, va_rf (pt (ad 1) (u))), (1, va_rf (pt (ad 2) (j))), (2, .int (iI (d)))] from by first | rfl | simp [lv_args, cat_rf, cat_i, cat_l, cat_r]]
  obtain ⟨f_1_0, f_1_1, f_1_2, f_1_3, f_1_4, f_1_5, f_1_6, f_1_7, f_1_8⟩ := hI.ins hu.1 hu.2
  obtain ⟨f_2_0, f_2_1, f_2_2, f_2_3, f_2_4, f_2_5, f_2_6, f_2_7, f_2_8, f_2_9⟩ := hI.kal hj.1 hj.2
  refine j_aloadq_n X dX3_errorAfter_0 (q := 1) rfl 0 rfl ?_
  refine j_getp X (v := .long (iL (S 18 u))) fl_X3_176 hu.1 (hC.ins hu.1 hu.2) rfl dX3_errorAfter_1 (q := 4) rfl ?_
  refine j_lconst X (a := 0) (by decide +kernel) dX3_errorAfter_4 (q := 5) rfl ?_
  refine j_lcmp X (by omega) (by omega) dX3_errorAfter_5 (q := 6) rfl ?_
  refine j_if_gt X (tgt := 15) dX3_errorAfter_6 (by decide) (q := 9) rfl (cmpI_r _ _) (fun c_6 => ?_) (fun c_6 => ?_)
  · skip
    have c_6b := cmpI_gt.mp c_6
    have hm9 := mul_rng (show -900000000000 ≤ S 17 u ∧ S 17 u ≤ 900000000000 by omega) hd (by decide)
    refine j_aloadq_n X dX3_errorAfter_15 (q := 16) rfl 1 rfl ?_
    refine j_getp X (v := .int (iI (S 22 j))) fl_X3_155 hj.1 (hC.kal hj.1 hj.2) rfl dX3_errorAfter_16 (q := 19) rfl ?_
    refine j_i2l X (by omega) dX3_errorAfter_19 (q := 20) rfl ?_
    refine j_aloadq_n X dX3_errorAfter_20 (q := 21) rfl 0 rfl ?_
    refine j_getp X (v := .long (iL (S 17 u))) fl_X3_172 hu.1 (hC.ins hu.1 hu.2) rfl dX3_errorAfter_21 (q := 24) rfl ?_
    refine j_iload_n X dX3_errorAfter_24 (q := 25) rfl 2 rfl ?_
    refine j_i2l X (by omega) dX3_errorAfter_25 (q := 26) rfl ?_
    refine j_lmul X dX3_errorAfter_26 (q := 27) rfl ?_
    refine j_aloadq_n X dX3_errorAfter_27 (q := 28) rfl 0 rfl ?_
    refine j_getp X (v := .long (iL (S 18 u))) fl_X3_176 hu.1 (hC.ins hu.1 hu.2) rfl dX3_errorAfter_28 (q := 31) rfl ?_
    refine j_callS X (As := [.long (iL ((S 17 u) * d)), .long (iL (S 18 u))]) (st := [.long (iL (S 22 j))])  (c_J9_floorDiv_f86c9 hlt (S 17 u * d) (S 18 u) (by omega) (by omega)) ss_X3_206 (by decide) rfl (by first | decide | simp [cat_rf, cat_i, cat_l, cat_r]) dX3_errorAfter_31 (by decide) (fun _ _ h => h.elim) ?_
    rintro v9 w9 ⟨rfl, rfl⟩
    refine j_st (st := [.long (iL (S 17 u * d / S 18 u)), .long (iL (S 22 j))]) ?_
    refine j_ladd X dX3_errorAfter_34 (q := 35) rfl ?_
    exact j_lret X rfl dX3_errorAfter_35 (⟨by rw [errS, if_neg (by omega)], rfl⟩) (by decide) (by decide)
  · skip
    have c_6b := cmpI_le.mp c_6
    refine j_aloadq_n X dX3_errorAfter_9 (q := 10) rfl 1 rfl ?_
    refine j_getp X (v := .int (iI (S 22 j))) fl_X3_155 hj.1 (hC.kal hj.1 hj.2) rfl dX3_errorAfter_10 (q := 13) rfl ?_
    refine j_i2l X (by omega) dX3_errorAfter_13 (q := 14) rfl ?_
    exact j_lret X rfl dX3_errorAfter_14 (⟨by rw [errS, if_pos c_6b], rfl⟩) (by decide) (by decide)

set_option maxRecDepth 100000 in
set_option maxHeartbeats 4000000 in
theorem c_X3_isOutAfter {l : Launch} (hlt : l.stackTraces = false) {D : va_G} {ca : Nat → ClassId} {base : Nat} {ad : Nat → Int → Nat} {n nc nm : Int} {S : St} {w : Wd} (hC : CW base ca ad n nc nm S w) (hI : IC n nc nm S) (u j d : Int) (hu : 0 ≤ u ∧ u < n) (hj : 0 ≤ j ∧ j < nc) (hd : 0 ≤ d ∧ d ≤ 9999) : CT l D ca base yX3_isOutAfter cX3_isOutAfter 3 (some .boolean) 2 0 0 [va_rf (pt (ad 1) (u)), va_rf (pt (ad 2) (j)), .int (iI (d))] w (fun v w' => v = some (.int (iI (tf (S 11 u < iabs (errS S u j d))))) ∧ w = w') (fun _ _ => False) := by
  obtain ⟨hn, hnc, hnm, e3, e4, e5, h6, h7, h8⟩ := hI.top
  refine CT.mk hlt (by decide +kernel) (by first | exact Nat.le_of_ble_eq_true rfl | simp [lg_sl, cat_rf, cat_i, cat_l, cat_r]) ?_
  intro p e s m args below meth c X htab
  rw [show lv_args 0 [va_rf (pt (ad 1) (u)), va_rf (pt (ad 2) (j)), .int (iI (d))] = [(0, va_rf (pt (ad 1) (u))), (1, va_rf (pt (ad 2) (j))), (2, .int (iI (d)))] from by first | rfl | simp [lv_args, cat_rf, cat_i, cat_l, cat_r]]
  obtain ⟨f_3_0, f_3_1, f_3_2, f_3_3, f_3_4, f_3_5, f_3_6, f_3_7, f_3_8⟩ := hI.ins hu.1 hu.2
  have hb9 := errS_b hI hu hj hd
  have hb8 : 0 ≤ iabs (errS S u j d) ∧ iabs (errS S u j d) ≤ 9000000000000000 := by unfold iabs; split <;> omega
  refine j_aloadq_n X dX3_isOutAfter_0 (q := 1) rfl 0 rfl ?_
  refine j_aloadq_n X dX3_isOutAfter_1 (q := 2) rfl 1 rfl ?_
  refine j_iload_n X dX3_isOutAfter_2 (q := 3) rfl 2 rfl ?_
  refine j_callS X (As := [va_rf (pt (ad 1) (u)), va_rf (pt (ad 2) (j)), .int (iI (d))]) (st := [])  (c_X3_errorAfter hlt hC hI u j d hu hj hd) ss_X3_195 (by decide) rfl (by first | decide | simp [cat_rf, cat_i, cat_l, cat_r]) dX3_isOutAfter_3 (by decide) (fun _ _ h => h.elim) ?_
  rintro v9 w9 ⟨rfl, rfl⟩
  refine j_st (st := [.long (iL (errS S u j d))]) ?_
  refine j_callS X (As := [.long (iL (errS S u j d))]) (st := [])  (c_J9_abs_067f4 hlt (errS S u j d) (by omega)) ss_X3_210 (by decide) rfl (by first | decide | simp [cat_rf, cat_i, cat_l, cat_r]) dX3_isOutAfter_6 (by decide) (fun _ _ h => h.elim) ?_
  rintro v9 w9 ⟨rfl, rfl⟩
  refine j_st (st := [.long (iL (iabs (errS S u j d)))]) ?_
  refine j_aloadq_n X dX3_isOutAfter_9 (q := 10) rfl 0 rfl ?_
  refine j_getp X (v := .int (iI (S 11 u))) fl_X3_129 hu.1 (hC.ins hu.1 hu.2) rfl dX3_isOutAfter_10 (q := 13) rfl ?_
  refine j_i2l X (by omega) dX3_isOutAfter_13 (q := 14) rfl ?_
  refine j_lcmp X (by omega) (by omega) dX3_isOutAfter_14 (q := 15) rfl ?_
  refine j_if_le X (tgt := 22) dX3_isOutAfter_15 (by decide) (q := 18) rfl (cmpI_r _ _) (fun c_15 => ?_) (fun c_15 => ?_)
  · skip
    refine j_iconst X (a := 0) dX3_isOutAfter_22 (q := 23) rfl ?_
    exact j_zret X rfl (Or.inl rfl) dX3_isOutAfter_23 (⟨by rw [tf_f (by have := cmpI_le.mp c_15; omega)], rfl⟩) (by decide) (by decide)
  · skip
    refine j_iconst X (a := 1) dX3_isOutAfter_18 (q := 19) rfl ?_
    refine j_goto X (tgt := 23) dX3_isOutAfter_19 (by decide) ?_
    exact j_zret X rfl (Or.inr rfl) dX3_isOutAfter_23 (⟨by rw [tf_t (by have := cmpI_gt.mp c_15; omega)], rfl⟩) (by decide) (by decide)

set_option maxRecDepth 100000 in
set_option maxHeartbeats 4000000 in
theorem c_X3_expected {l : Launch} (hlt : l.stackTraces = false) {D : va_G} {ca : Nat → ClassId} {base : Nat} {ad : Nat → Int → Nat} {n nc nm : Int} {S : St} {w : Wd} (hC : CW base ca ad n nc nm S w) (hI : IC n nc nm S) (z : Int) (hz : -2147483648 ≤ z ∧ z ≤ 2147483647) (d : Int) (hd : -2147483648 ≤ d ∧ d ≤ 2147483647) : CT l D ca base yX3_expected cX3_expected 4 (some .long) 2 2 12 [.ref (ad 0 0), .int (iI (z)), .int (iI (d))] w (fun v w' => ((0 ≤ z ∧ z < n) ∧ (0 ≤ d ∧ d ≤ 9999) ∧ 0 ≤ S 15 z) ∧ v = some (.long (iL (errS S z (S 15 z) d))) ∧ w = w') (fun E w' => ((¬ (0 ≤ z ∧ z < n) ∧ E = nIO) ∨ ((0 ≤ z ∧ z < n) ∧ ¬ (0 ≤ d ∧ d ≤ 9999) ∧ E = nIA) ∨ ((0 ≤ z ∧ z < n) ∧ (0 ≤ d ∧ d ≤ 9999) ∧ S 15 z < 0 ∧ E = nIS)) ∧ w = w') := by
  obtain ⟨hn, hnc, hnm, e3, e4, e5, h6, h7, h8⟩ := hI.top
  refine CT.mk hlt (by decide +kernel) (by first | exact Nat.le_of_ble_eq_true rfl | simp [lg_sl, cat_rf, cat_i, cat_l, cat_r]) ?_
  intro p e s m args below meth c X htab
  rw [show lv_args 0 [.ref (ad 0 0), .int (iI (z)), .int (iI (d))] = [(0, .ref (ad 0 0)), (1, .int (iI (z))), (2, .int (iI (d)))] from by first | rfl | simp [lv_args, cat_rf, cat_i, cat_l, cat_r]]
  refine j_aload_n X dX3_expected_0 (q := 1) rfl 0 rfl ?_
  refine j_iload_n X dX3_expected_1 (q := 2) rfl 1 rfl ?_
  refine j_callV X (As := [.int (iI (z))]) (st := []) hC.cal rfl (c_X3_known hlt hC hI z hz) sv_X3_54 (by decide) rfl (by first | decide | simp [cat_rf, cat_i, cat_l, cat_r]) dX3_expected_2 (by decide) (fun E w' h => jx_out X htab ⟨Or.inl ⟨h.1, h.2.1⟩, h.2.2⟩ (by decide) (by decide)) ?_
  rintro v9 w9 ⟨k1, rfl, rfl⟩
  refine j_st (st := [va_rf (pt (ad 1) (z))]) ?_
  obtain ⟨f_4_0, f_4_1, f_4_2, f_4_3, f_4_4, f_4_5, f_4_6, f_4_7, f_4_8⟩ := hI.ins k1.1 k1.2
  refine j_astoreq_n X (i := 3) dX3_expected_5 rfl (by decide) (q := 6) rfl (lv' := [(3, va_rf (pt (ad 1) (z))), (0, .ref (ad 0 0)), (1, .int (iI (z))), (2, .int (iI (d)))]) (by first | rfl | simp [cat_rf, cat_i, cat_l, cat_r]) ?_
  refine j_iload_n X dX3_expected_6 (q := 7) rfl 3 rfl ?_
  refine j_if_lt X (tgt := 17) dX3_expected_7 (by decide) (q := 10) rfl (by omega) (fun c_7 => ?_) (fun c_7 => ?_)
  · skip
    exact j_throw X htab ts_31_67 dX3_expected_17 dX3_expected_20 dX3_expected_21 dX3_expected_23 dX3_expected_26 (by decide) (by decide) (by decide) (by decide) (⟨Or.inr (Or.inl ⟨k1, by omega, rfl⟩), rfl⟩) (by decide) (by decide)
  · skip
    refine j_iload_n X dX3_expected_10 (q := 11) rfl 3 rfl ?_
    refine j_sipush X (a := 9999) (by decide +kernel) dX3_expected_11 (q := 14) rfl ?_
    refine j_icmp_le X (tgt := 27) dX3_expected_14 (by decide) (q := 17) rfl (by omega) (by omega) (fun c_14 => ?_) (fun c_14 => ?_)
    · skip
      refine j_aloadq_n X dX3_expected_27 (q := 28) rfl 0 rfl ?_
      refine j_getp X (v := va_rf (pt (ad 2) (S 15 z))) fl_X3_95 k1.1 (hC.ins k1.1 k1.2) rfl dX3_expected_28 (q := 31) rfl ?_
      refine j_ifnonnullp X (tgt := 44) dX3_expected_31 (by decide) (q := 34) rfl (fun c_31 => ?_) (fun c_31 => ?_)
      · skip
        obtain ⟨f_5_0, f_5_1, f_5_2, f_5_3, f_5_4, f_5_5, f_5_6, f_5_7, f_5_8, f_5_9⟩ := hI.kal c_31 (by omega)
        refine j_aloadq_n X dX3_expected_44 (q := 45) rfl 0 rfl ?_
        refine j_aloadq_n X dX3_expected_45 (q := 46) rfl 0 rfl ?_
        refine j_getp X (v := va_rf (pt (ad 2) (S 15 z))) fl_X3_95 k1.1 (hC.ins k1.1 k1.2) rfl dX3_expected_46 (q := 49) rfl ?_
        refine j_iload_n X dX3_expected_49 (q := 50) rfl 3 rfl ?_
        refine j_callS X (As := [va_rf (pt (ad 1) (z)), va_rf (pt (ad 2) (S 15 z)), .int (iI (d))]) (st := [])  (c_X3_errorAfter hlt hC hI z (S 15 z) d k1 ⟨c_31, by omega⟩ (by omega)) ss_X3_195 (by decide) rfl (by first | decide | simp [cat_rf, cat_i, cat_l, cat_r]) dX3_expected_50 (by decide) (fun _ _ h => h.elim) ?_
        rintro v9 w9 ⟨rfl, rfl⟩
        refine j_st (st := [.long (iL (errS S z (S 15 z) d))]) ?_
        exact j_lret X rfl dX3_expected_53 (⟨⟨k1, by omega, c_31⟩, rfl, rfl⟩) (by decide) (by decide)
      · skip
        exact j_throw X htab ts_42_193 dX3_expected_34 dX3_expected_37 dX3_expected_38 dX3_expected_40 dX3_expected_43 (by decide) (by decide) (by decide) (by decide) (⟨Or.inr (Or.inr ⟨k1, by omega, c_31, rfl⟩), rfl⟩) (by decide) (by decide)
    · skip
      exact j_throw X htab ts_31_67 dX3_expected_17 dX3_expected_20 dX3_expected_21 dX3_expected_23 dX3_expected_26 (by decide) (by decide) (by decide) (by decide) (⟨Or.inr (Or.inl ⟨k1, by omega, rfl⟩), rfl⟩) (by decide) (by decide)

theorem p2_half (k : Nat) : (2 ^ (k + 1)) / 2 = 2 ^ k := by rw [Nat.pow_succ]; exact Nat.mul_div_cancel _ (by decide)
theorem p2_b {k : Nat} (h : k ≤ 13) : 1 ≤ 2 ^ k ∧ 2 ^ k ≤ 8192 := ⟨Nat.one_le_two_pow, Nat.pow_le_pow_right (by decide) h⟩
theorem p2_td (k : Nat) (h : k ≤ 13) : Int.tdiv ((2 ^ k : Nat) : Int) 2 = ((2 ^ k / 2 : Nat) : Int) := rfl
set_option maxRecDepth 100000 in
set_option maxHeartbeats 4000000 in
theorem c_X3_leastRoot {l : Launch} (hlt : l.stackTraces = false) {D : va_G} {ca : Nat → ClassId} {base : Nat} {w : Wd} (x : Int) (hx : -2147483648 ≤ x ∧ x ≤ 268435456) : CT l D ca base yX3_leastRoot cX3_leastRoot 3 (some .int) 0 0 0 [.int (iI (x))] w (fun v w' => v = some (.int (iI (rt x))) ∧ w = w') (fun _ _ => False) := by
  refine CT.mk hlt (by decide +kernel) (by first | exact Nat.le_of_ble_eq_true rfl | simp [lg_sl, cat_rf, cat_i, cat_l, cat_r]) ?_
  intro p e s m args below meth c X htab
  rw [show lv_args 0 [.int (iI (x))] = [(0, .int (iI (x)))] from by first | rfl | simp [lv_args, cat_rf, cat_i, cat_l, cat_r]]
  refine j_iload_n X dX3_leastRoot_0 (q := 1) rfl 0 rfl ?_
  refine j_if_gt X (tgt := 6) dX3_leastRoot_1 (by decide) (q := 4) rfl (by omega) (fun c_1 => ?_) (fun c_1 => ?_)
  · skip
    refine j_iconst X (a := 0) dX3_leastRoot_6 (q := 7) rfl ?_
    refine j_istore_n X (i := 1) dX3_leastRoot_7 rfl (by decide) (q := 8) rfl (lv' := [(1, .int (iI (0))), (0, .int (iI (x)))]) (by first | rfl | simp [cat_rf, cat_i, cat_l, cat_r]) ?_
    refine j_sipush X (a := 8192) (by decide +kernel) dX3_leastRoot_8 (q := 11) rfl ?_
    refine j_istore_n X (i := 2) dX3_leastRoot_11 rfl (by decide) (q := 12) rfl (lv' := [(2, .int (iI (8192))), (1, .int (iI (0))), (0, .int (iI (x)))]) (by first | rfl | simp [cat_rf, cat_i, cat_l, cat_r]) ?_
    have loop : ∀ (kk : Nat) (b : Int), kk ≤ 14 → (0 ≤ b ∧ b + ((2 ^ kk : Nat) : Int) ≤ 16384) → b * b < x → x ≤ (b + ((2 ^ kk : Nat) : Int)) * (b + ((2 ^ kk : Nat) : Int)) → J p l e (Rm 0 0 0) s m args below meth c (vx_MQ below (Qn D base (fun v w' => v = some (.int (iI (rt x))) ∧ w = w')) (Xn D base (fun _ _ => False)) args s 0 0 (fun q => base ≤ q)) D base 3 0 0 12 [(0, .int (iI (x))), (1, .int (iI (b))), (2, .int (iI (((2 ^ kk / 2 : Nat) : Int))))] [] w := by
      intro kk
      induction kk with
      | zero =>
        intro b hk hb h1 h2
        have e0 : ((2 ^ 0 / 2 : Nat) : Int) = 0 := rfl
        have e1 : ((2 ^ 0 : Nat) : Int) = 1 := rfl
        rw [e1] at hb h2
        rw [e0]
        refine j_iload_n X dX3_leastRoot_12 (q := 13) rfl 2 rfl ?_
        refine j_if_le X (tgt := 38) dX3_leastRoot_13 (by decide) (q := 16) rfl (by omega) (fun c_13 => ?_) (fun c_13 => ?_)
        · skip
          refine j_iload_n X dX3_leastRoot_38 (q := 39) rfl 1 rfl ?_
          refine j_iconst X (a := 1) dX3_leastRoot_39 (q := 40) rfl ?_
          refine j_iadd X dX3_leastRoot_40 (q := 41) rfl ?_
          exact j_iret X rfl dX3_leastRoot_41 (⟨by rw [rt_of (by omega) ⟨by omega, h2, fun t ht0 ht => by have := sq_lt ht0 (show t ≤ b by omega); omega⟩], rfl⟩) (by decide) (by decide)
        · skip
          exact absurd c_13 (by decide)
      | succ kk ih =>
        intro b hk hb h1 h2
        obtain ⟨q1, q2⟩ := p2_b (show kk ≤ 13 by omega)
        have e1 : ((2 ^ (kk + 1) : Nat) : Int) = ((2 ^ kk : Nat) : Int) + ((2 ^ kk : Nat) : Int) := by rw [Nat.pow_succ]; omega
        rw [e1] at hb h2
        rw [p2_half]
        have et : Int.tdiv ((2 ^ kk : Nat) : Int) 2 = ((2 ^ kk / 2 : Nat) : Int) := rfl
        generalize hp : ((2 ^ kk : Nat) : Int) = p at *
        have q1b : 1 ≤ p ∧ p ≤ 8192 := by omega
        have hsq := sq_r (A := 16384) (show 0 ≤ b + p ∧ b + p ≤ 16384 by omega)
        refine j_iload_n X dX3_leastRoot_12 (q := 13) rfl 2 rfl ?_
        refine j_if_le X (tgt := 38) dX3_leastRoot_13 (by decide) (q := 16) rfl (by omega) (fun c_13 => ?_) (fun c_13 => ?_)
        · skip
          exact absurd c_13 (by omega)
        · skip
          refine j_iload_n X dX3_leastRoot_16 (q := 17) rfl 1 rfl ?_
          refine j_iload_n X dX3_leastRoot_17 (q := 18) rfl 2 rfl ?_
          refine j_iadd X dX3_leastRoot_18 (q := 19) rfl ?_
          refine j_iload_n X dX3_leastRoot_19 (q := 20) rfl 1 rfl ?_
          refine j_iload_n X dX3_leastRoot_20 (q := 21) rfl 2 rfl ?_
          refine j_iadd X dX3_leastRoot_21 (q := 22) rfl ?_
          refine j_imul X dX3_leastRoot_22 (q := 23) rfl ?_
          refine j_iload_n X dX3_leastRoot_23 (q := 24) rfl 0 rfl ?_
          refine j_icmp_ge X (tgt := 31) dX3_leastRoot_24 (by decide) (q := 27) rfl (by omega) (by omega) (fun c_24 => ?_) (fun c_24 => ?_)
          · skip
            refine j_iload_n X dX3_leastRoot_31 (q := 32) rfl 2 rfl ?_
            refine j_iconst X (a := 2) dX3_leastRoot_32 (q := 33) rfl ?_
            refine j_idiv X (by omega) (by omega) dX3_leastRoot_33 (q := 34) rfl ?_
            refine j_istore_n X (i := 2) dX3_leastRoot_34 rfl (by decide) (q := 35) rfl (lv' := [(2, .int (iI (Int.tdiv (p) (2)))), (0, .int (iI (x))), (1, .int (iI (b)))]) (by first | rfl | simp [cat_rf, cat_i, cat_l, cat_r]) ?_
            refine j_goto X (tgt := 12) dX3_leastRoot_35 (by decide) ?_
            rw [et]
            exact j_lv (ih b (by omega) (by omega) h1 c_24) [1, 2, 0] rfl
          · skip
            refine j_iload_n X dX3_leastRoot_27 (q := 28) rfl 1 rfl ?_
            refine j_iload_n X dX3_leastRoot_28 (q := 29) rfl 2 rfl ?_
            refine j_iadd X dX3_leastRoot_29 (q := 30) rfl ?_
            refine j_istore_n X (i := 1) dX3_leastRoot_30 rfl (by decide) (q := 31) rfl (lv' := [(1, .int (iI (b + p))), (0, .int (iI (x))), (2, .int (iI (p)))]) (by first | rfl | simp [cat_rf, cat_i, cat_l, cat_r]) ?_
            refine j_iload_n X dX3_leastRoot_31 (q := 32) rfl 2 rfl ?_
            refine j_iconst X (a := 2) dX3_leastRoot_32 (q := 33) rfl ?_
            refine j_idiv X (by omega) (by omega) dX3_leastRoot_33 (q := 34) rfl ?_
            refine j_istore_n X (i := 2) dX3_leastRoot_34 rfl (by decide) (q := 35) rfl (lv' := [(2, .int (iI (Int.tdiv (p) (2)))), (1, .int (iI (b + p))), (0, .int (iI (x)))]) (by first | rfl | simp [cat_rf, cat_i, cat_l, cat_r]) ?_
            refine j_goto X (tgt := 12) dX3_leastRoot_35 (by decide) ?_
            rw [et]
            exact j_lv (ih (b + p) (by omega) (by omega) c_24 (by rw [show b + p + p = b + (p + p) by omega]; exact h2)) [2, 1, 0] rfl
    exact j_lv (loop 14 0 (by decide) (by decide) (by omega) (by rw [show ((0 : Int) + ((2 ^ 14 : Nat) : Int)) * (0 + ((2 ^ 14 : Nat) : Int)) = 268435456 from rfl]; exact hx.2)) [2, 1, 0] rfl
  · skip
    refine j_iconst X (a := 0) dX3_leastRoot_4 (q := 5) rfl ?_
    exact j_iret X rfl dX3_leastRoot_5 (⟨by rw [rt_of (x := x) (by omega) ⟨Int.le_refl 0, by omega, fun t a b => by omega⟩], rfl⟩) (by decide) (by decide)

theorem IC.own {n nc nm : Int} {S : St} (hI : IC n nc nm S) : ∀ i, 0 ≤ i → i < n → (-1 ≤ S 14 i ∧ S 14 i < n) ∧ (0 ≤ S 12 i ∧ S 12 i ≤ 999) := fun i a b => ⟨(hI.ins a b).2.2.2.2.1, (hI.ins a b).2.2.1⟩
set_option maxRecDepth 100000 in
set_option maxHeartbeats 4000000 in
theorem c_X3_uncertaintyWithChain {l : Launch} (hlt : l.stackTraces = false) {D : va_G} {ca : Nat → ClassId} {base : Nat} {ad : Nat → Int → Nat} {n nc nm : Int} {S : St} {w : Wd} (hC : CW base ca ad n nc nm S w) (hI : IC n nc nm S) : ∀ (kk : Nat) (u dp : Int), (-1 ≤ u ∧ u < n) → ends (S 14) kk u → (0 ≤ dp ∧ dp + kk ≤ 12) → CT l D ca base yX3_uncertaintyWithChain cX3_uncertaintyWithChain 3 (some .int) (kk + 1) 0 0 [va_rf (pt (ad 1) (u)), .int (iI (dp))] w (fun v w' => v = some (.int (iI (unc (S 14) (S 12) kk u))) ∧ w = w') (fun _ _ => False) := by
  obtain ⟨hn, hnc, hnm, e3, e4, e5, h6, h7, h8⟩ := hI.top
  intro kk
  induction kk using Nat.strongRecOn with
  | ind kk ih =>
    intro u dp hu hk hdp
    refine CT.mk hlt (by decide +kernel) (by simp [lg_sl, cat_rf, cat_i, cat_l, cat_r]) ?_
    intro p e s m args below meth c X htab
    rw [show lv_args 0 [va_rf (pt (ad 1) (u)), .int (iI (dp))] = [(0, va_rf (pt (ad 1) (u))), (1, .int (iI (dp)))] from by simp [lv_args, cat_rf, cat_i, cat_l, cat_r]]
    refine j_aloadq_n X dX3_uncertaintyWithChain_0 (q := 1) rfl 0 rfl ?_
    refine j_ifnullp X (tgt := 10) dX3_uncertaintyWithChain_1 (by decide) (q := 4) rfl (fun c_1 => ?_) (fun c_1 => ?_)
    · skip
      refine j_iconst X (a := 0) dX3_uncertaintyWithChain_10 (q := 11) rfl ?_
      exact j_iret X rfl dX3_uncertaintyWithChain_11 (⟨by rw [unc_n (by omega)], rfl⟩) (by decide) (by decide)
    · skip
      obtain ⟨f_6_0, f_6_1, f_6_2, f_6_3, f_6_4, f_6_5, f_6_6, f_6_7, f_6_8⟩ := hI.ins c_1 hu.2
      obtain ⟨j9, rfl, hk9⟩ := ends_pos hk c_1
      refine j_iload_n X dX3_uncertaintyWithChain_4 (q := 5) rfl 1 rfl ?_
      refine j_bipush X (a := 12) (by decide +kernel) dX3_uncertaintyWithChain_5 (q := 7) rfl ?_
      refine j_icmp_lt X (tgt := 12) dX3_uncertaintyWithChain_7 (by decide) (q := 10) rfl (by omega) (by omega) (fun c_7 => ?_) (fun c_7 => ?_)
      · skip
        refine j_aloadq_n X dX3_uncertaintyWithChain_12 (q := 13) rfl 0 rfl ?_
        refine j_getp X (v := va_rf (pt (ad 1) (S 14 u))) fl_X3_50 c_1 (hC.ins c_1 hu.2) rfl dX3_uncertaintyWithChain_13 (q := 16) rfl ?_
        refine j_iload_n X dX3_uncertaintyWithChain_16 (q := 17) rfl 1 rfl ?_
        refine j_iconst X (a := 1) dX3_uncertaintyWithChain_17 (q := 18) rfl ?_
        refine j_iadd X dX3_uncertaintyWithChain_18 (q := 19) rfl ?_
        refine j_callS X (As := [va_rf (pt (ad 1) (S 14 u)), .int (iI (dp + 1))]) (st := []) (ih j9 (by omega) (S 14 u) (dp + 1) (by omega) hk9 (by omega)) ss_X3_203 (by show (8 * (j9 + 1) + 8) + 1 ≤ 8 * (j9 + 1 + 1) + 8 ∧ 8 + (3 + 11) + (120 * (j9 + 1) + 200) ≤ 120 * (j9 + 1 + 1) + 200; omega) rfl (by decide) dX3_uncertaintyWithChain_19 (by show 0 + 0 ≤ 0 ∧ 0 + 0 ≤ 0; decide) (fun _ _ h => h.elim) ?_
        rintro v9 w9 ⟨rfl, rfl⟩
        have hb9 := unc_b hI.own j9 (S 14 u) (by omega) (by omega) (by omega)
        have h5 := sq_r (show 0 ≤ S 12 u ∧ S 12 u ≤ 999 by omega)
        have h6 := sq_r (A := 12000) (show 0 ≤ unc (S 14) (S 12) j9 (S 14 u) ∧ unc (S 14) (S 12) j9 (S 14 u) ≤ 12000 by omega)
        refine j_st (st := [.int (iI (unc (S 14) (S 12) j9 (S 14 u)))]) ?_
        refine j_istore_n X (i := 2) dX3_uncertaintyWithChain_22 rfl (by decide) (q := 23) rfl (lv' := [(2, .int (iI (unc (S 14) (S 12) j9 (S 14 u)))), (0, va_rf (pt (ad 1) (u))), (1, .int (iI (dp)))]) (by first | rfl | simp [cat_rf, cat_i, cat_l, cat_r]) ?_
        refine j_aloadq_n X dX3_uncertaintyWithChain_23 (q := 24) rfl 1 rfl ?_
        refine j_getp X (v := .int (iI (S 12 u))) fl_X3_213 c_1 (hC.ins c_1 hu.2) rfl dX3_uncertaintyWithChain_24 (q := 27) rfl ?_
        refine j_aloadq_n X dX3_uncertaintyWithChain_27 (q := 28) rfl 1 rfl ?_
        refine j_getp X (v := .int (iI (S 12 u))) fl_X3_213 c_1 (hC.ins c_1 hu.2) rfl dX3_uncertaintyWithChain_28 (q := 31) rfl ?_
        refine j_imul X dX3_uncertaintyWithChain_31 (q := 32) rfl ?_
        refine j_iload_n X dX3_uncertaintyWithChain_32 (q := 33) rfl 0 rfl ?_
        refine j_iload_n X dX3_uncertaintyWithChain_33 (q := 34) rfl 0 rfl ?_
        refine j_imul X dX3_uncertaintyWithChain_34 (q := 35) rfl ?_
        refine j_iadd X dX3_uncertaintyWithChain_35 (q := 36) rfl ?_
        refine j_callS X (As := [.int (iI (((S 12 u) * (S 12 u)) + ((unc (S 14) (S 12) j9 (S 14 u)) * (unc (S 14) (S 12) j9 (S 14 u)))))]) (st := []) (c_X3_leastRoot hlt (((S 12 u) * (S 12 u)) + ((unc (S 14) (S 12) j9 (S 14 u)) * (unc (S 14) (S 12) j9 (S 14 u)))) (by omega)) ss_X3_216 (by show (8 * 0 + 8) + 1 ≤ 8 * (j9 + 1 + 1) + 8 ∧ 8 + (3 + 11) + (120 * 0 + 200) ≤ 120 * (j9 + 1 + 1) + 200; omega) rfl (by decide) dX3_uncertaintyWithChain_36 (by show 0 + 0 + 0 ≤ 0 ∧ 0 + 0 + 0 ≤ 0; decide) (fun _ _ h => h.elim) ?_
        rintro v9 w9 ⟨rfl, rfl⟩
        refine j_st (st := [.int (iI (rt (((S 12 u) * (S 12 u)) + ((unc (S 14) (S 12) j9 (S 14 u)) * (unc (S 14) (S 12) j9 (S 14 u))))))]) ?_
        exact j_iret X rfl dX3_uncertaintyWithChain_39 (⟨by rw [unc_s c_1], rfl⟩) (by decide) (by decide)
      · skip
        exact absurd c_7 (by omega)

set_option maxRecDepth 100000 in
set_option maxHeartbeats 4000000 in
theorem c_X3_uncertainty {l : Launch} (hlt : l.stackTraces = false) {D : va_G} {ca : Nat → ClassId} {base : Nat} {ad : Nat → Int → Nat} {n nc nm : Int} {S : St} {w : Wd} (hC : CW base ca ad n nc nm S w) (hI : IC n nc nm S) (z : Int) (hz : -2147483648 ≤ z ∧ z ≤ 2147483647) : CT l D ca base yX3_uncertainty cX3_uncertainty 2 (some .int) 14 1 6 [.ref (ad 0 0), .int (iI (z))] w (fun v w' => (0 ≤ z ∧ z < n) ∧ v = some (.int (iI (unc (S 14) (S 12) 12 z))) ∧ w = w') (fun E w' => ¬ (0 ≤ z ∧ z < n) ∧ E = nIO ∧ w = w') := by
  obtain ⟨hn, hnc, hnm, e3, e4, e5, h6, h7, h8⟩ := hI.top
  refine CT.mk hlt (by decide +kernel) (by first | exact Nat.le_of_ble_eq_true rfl | simp [lg_sl, cat_rf, cat_i, cat_l, cat_r]) ?_
  intro p e s m args below meth c X htab
  rw [show lv_args 0 [.ref (ad 0 0), .int (iI (z))] = [(0, .ref (ad 0 0)), (1, .int (iI (z)))] from by first | rfl | simp [lv_args, cat_rf, cat_i, cat_l, cat_r]]
  refine j_aload_n X dX3_uncertainty_0 (q := 1) rfl 0 rfl ?_
  refine j_iload_n X dX3_uncertainty_1 (q := 2) rfl 1 rfl ?_
  refine j_callV X (As := [.int (iI (z))]) (st := []) hC.cal rfl (c_X3_known hlt hC hI z hz) sv_X3_54 (by decide) rfl (by first | decide | simp [cat_rf, cat_i, cat_l, cat_r]) dX3_uncertainty_2 (by decide) (fun E w' h => jx_out X htab h (by decide) (by decide)) ?_
  rintro v9 w9 ⟨k1, rfl, rfl⟩
  refine j_st (st := [va_rf (pt (ad 1) (z))]) ?_
  obtain ⟨f_7_0, f_7_1, f_7_2, f_7_3, f_7_4, f_7_5, f_7_6, f_7_7, f_7_8⟩ := hI.ins k1.1 k1.2
  refine j_iconst X (a := 0) dX3_uncertainty_5 (q := 6) rfl ?_
  refine j_callS X (As := [va_rf (pt (ad 1) (z)), .int (iI (0))]) (st := [])  (c_X3_uncertaintyWithChain hlt hC hI 12 z 0 (by omega) (hI.ends (by omega) k1.2) (by decide)) ss_X3_203 (by decide) rfl (by first | decide | simp [cat_rf, cat_i, cat_l, cat_r]) dX3_uncertainty_6 (by decide) (fun _ _ h => h.elim) ?_
  rintro v9 w9 ⟨rfl, rfl⟩
  refine j_st (st := [.int (iI (unc (S 14) (S 12) 12 z))]) ?_
  exact j_iret X rfl dX3_uncertainty_9 (⟨k1, rfl, rfl⟩) (by decide) (by decide)

set_option maxRecDepth 100000 in
set_option maxHeartbeats 4000000 in
theorem c_X3_limit {l : Launch} (hlt : l.stackTraces = false) {D : va_G} {ca : Nat → ClassId} {base : Nat} {ad : Nat → Int → Nat} {n nc nm : Int} {S : St} {w : Wd} (hC : CW base ca ad n nc nm S w) (hI : IC n nc nm S) (z : Int) (hz : -2147483648 ≤ z ∧ z ≤ 2147483647) : CT l D ca base yX3_limit cX3_limit 3 (some .int) 14 1 6 [.ref (ad 0 0), .int (iI (z))] w (fun v w' => (0 ≤ z ∧ z < n) ∧ v = some (.int (iI (if 0 < S 11 z - unc (S 14) (S 12) 12 z then S 11 z - unc (S 14) (S 12) 12 z else 0))) ∧ w = w') (fun E w' => ¬ (0 ≤ z ∧ z < n) ∧ E = nIO ∧ w = w') := by
  obtain ⟨hn, hnc, hnm, e3, e4, e5, h6, h7, h8⟩ := hI.top
  refine CT.mk hlt (by decide +kernel) (by first | exact Nat.le_of_ble_eq_true rfl | simp [lg_sl, cat_rf, cat_i, cat_l, cat_r]) ?_
  intro p e s m args below meth c X htab
  rw [show lv_args 0 [.ref (ad 0 0), .int (iI (z))] = [(0, .ref (ad 0 0)), (1, .int (iI (z)))] from by first | rfl | simp [lv_args, cat_rf, cat_i, cat_l, cat_r]]
  refine j_aload_n X dX3_limit_0 (q := 1) rfl 0 rfl ?_
  refine j_iload_n X dX3_limit_1 (q := 2) rfl 1 rfl ?_
  refine j_callV X (As := [.int (iI (z))]) (st := []) hC.cal rfl (c_X3_known hlt hC hI z hz) sv_X3_54 (by decide) rfl (by first | decide | simp [cat_rf, cat_i, cat_l, cat_r]) dX3_limit_2 (by decide) (fun E w' h => jx_out X htab h (by decide) (by decide)) ?_
  rintro v9 w9 ⟨k1, rfl, rfl⟩
  refine j_st (st := [va_rf (pt (ad 1) (z))]) ?_
  obtain ⟨f_8_0, f_8_1, f_8_2, f_8_3, f_8_4, f_8_5, f_8_6, f_8_7, f_8_8⟩ := hI.ins k1.1 k1.2
  refine j_astoreq_n X (i := 2) dX3_limit_5 rfl (by decide) (q := 6) rfl (lv' := [(2, va_rf (pt (ad 1) (z))), (0, .ref (ad 0 0)), (1, .int (iI (z)))]) (by first | rfl | simp [cat_rf, cat_i, cat_l, cat_r]) ?_
  refine j_iconst X (a := 0) dX3_limit_6 (q := 7) rfl ?_
  refine j_aloadq_n X dX3_limit_7 (q := 8) rfl 0 rfl ?_
  refine j_getp X (v := .int (iI (S 11 z))) fl_X3_129 k1.1 (hC.ins k1.1 k1.2) rfl dX3_limit_8 (q := 11) rfl ?_
  refine j_aloadq_n X dX3_limit_11 (q := 12) rfl 0 rfl ?_
  refine j_iconst X (a := 0) dX3_limit_12 (q := 13) rfl ?_
  refine j_callS X (As := [va_rf (pt (ad 1) (z)), .int (iI (0))]) (st := [.int (iI (S 11 z)), .int (iI (0))])  (c_X3_uncertaintyWithChain hlt hC hI 12 z 0 (by omega) (hI.ends (by omega) k1.2) (by decide)) ss_X3_203 (by decide) rfl (by first | decide | simp [cat_rf, cat_i, cat_l, cat_r]) dX3_limit_13 (by decide) (fun _ _ h => h.elim) ?_
  rintro v9 w9 ⟨rfl, rfl⟩
  refine j_st (st := [.int (iI (unc (S 14) (S 12) 12 z)), .int (iI (S 11 z)), .int (iI (0))]) ?_
  refine j_isub X dX3_limit_16 (q := 17) rfl ?_
  have hb9 := unc_b hI.own 12 z (by decide) (by omega) k1.2
  refine j_callS X (As := [.int (iI (0)), .int (iI ((S 11 z) - (unc (S 14) (S 12) 12 z)))]) (st := [])  (c_J9_max_7cf53 hlt 0 (S 11 z - unc (S 14) (S 12) 12 z) (by decide) (by omega)) ss_X3_165 (by decide) rfl (by first | decide | simp [cat_rf, cat_i, cat_l, cat_r]) dX3_limit_17 (by decide) (fun _ _ h => h.elim) ?_
  rintro v9 w9 ⟨rfl, rfl⟩
  refine j_st (st := [.int (iI (if 0 < S 11 z - unc (S 14) (S 12) 12 z then S 11 z - unc (S 14) (S 12) 12 z else 0))]) ?_
  exact j_iret X rfl dX3_limit_20 (⟨k1, rfl, rfl⟩) (by decide) (by decide)
end
section
/-- the first of k days from d on that is out; -1: none -/
def drF (o : Int → Int) : Nat → Int → Int
  | 0, _ => -1
  | k + 1, d => if o d = 1 then d else drF o k (d + 1)
theorem drF_of {o : Int → Int} {r : Int} : ∀ (k : Nat) (d : Int), d ≤ r → r < d + k → o r = 1 → (∀ t, d ≤ t → t < r → o t ≠ 1) → drF o k d = r
  | 0, d, h0, h1, _, _ => by omega
  | k + 1, d, h0, h1, h2, h3 => by
    rw [drF]
    by_cases c : o d = 1
    · rw [if_pos c]
      exact Classical.byContradiction fun z => h3 d (Int.le_refl d) (by omega) c
    · rw [if_neg c]
      have hne : d ≠ r := fun z => c (by rw [z]; exact h2)
      exact drF_of k (d + 1) (by omega) (by omega) h2 fun t a b => h3 t (by omega) b
theorem drF_no {o : Int → Int} : ∀ (k : Nat) (d : Int), (∀ t, d ≤ t → t < d + k → o t ≠ 1) → drF o k d = -1
  | 0, _, _ => rfl
  | k + 1, d, h => by
    rw [drF, if_neg (h d (Int.le_refl d) (by omega))]
    exact drF_no k (d + 1) fun t a b => h t (by omega) (by omega)
def oS (S : St) (u j : Int) : Int → Int := fun d => tf (S 11 u < iabs (errS S u j d))
def drS (S : St) (z : Int) : Int := if S 15 z < 0 then -1 else drF (oS S z (S 15 z)) 10000 0
theorem iabs_gt {T z : Int} : T < iabs z ↔ (T < z ∨ T < -z) := by
  unfold iabs
  split <;> omega
/-- once out, it stays out -/
theorem oS_mono {S : St} {u j a b : Int} (h0 : oS S u j 0 = 0) (ha : 0 ≤ a) (hab : a ≤ b) (h : oS S u j a = 1) : oS S u j b = 1 := by
  have g0 : ¬ S 11 u < iabs (errS S u j 0) := fun z => by rw [oS, tf_t z] at h0; cases h0
  have ga : S 11 u < iabs (errS S u j a) := Classical.byContradiction fun z => by rw [oS, tf_f z] at h; cases h
  refine tf_t ?_
  rw [iabs_gt] at *
  unfold errS at *
  by_cases hq : S 18 u ≤ 0
  · rw [if_pos hq] at *
    exact ga
  · rw [if_neg hq] at *
    have e0 : S 17 u * 0 / S 18 u = 0 := by rw [Int.mul_zero, Int.zero_ediv]
    rw [e0] at g0
    have hq' : 0 < S 18 u := by omega
    rcases Int.le_total 0 (S 17 u) with hp | hp
    · have h1 : S 17 u * a ≤ S 17 u * b := Int.mul_le_mul_of_nonneg_left hab hp
      have h2 := Int.ediv_le_ediv hq' h1
      have h3 : 0 ≤ S 17 u * a / S 18 u := Int.ediv_nonneg (Int.mul_nonneg hp ha) (by omega)
      omega
    · have h1 : S 17 u * b ≤ S 17 u * a := Int.mul_le_mul_of_nonpos_left hp hab
      have h2 := Int.ediv_le_ediv hq' h1
      have h4 : S 17 u * a ≤ 0 := by have := Int.mul_le_mul_of_nonpos_left hp ha; rwa [Int.mul_zero] at this
      have h3 := Int.ediv_le_ediv hq' h4
      rw [Int.zero_ediv] at h3
      omega
theorem not_nan_n64 {r : UInt64} (h : FP.Core.val64 r ≠ .nan) : vf_n64 r := by
  unfold vf_n64
  rw [UInt64.le_iff_toNat_le, UInt64.toNat_and]
  have h1 : ¬ FP.Core.infBits FP.Core.b64 < FP.Core.mag FP.Core.b64 r.toNat := fun z => h ((FP.Core.decode_nan _).mpr z)
  have e1 : FP.Core.infBits FP.Core.b64 = 9218868437227405312 := by decide +kernel
  have e2 : FP.Core.half FP.Core.b64 = 2 ^ 63 := by decide +kernel
  unfold FP.Core.mag at h1
  rw [e1, e2] at h1
  have e3 : (0x7fffffffffffffff : UInt64).toNat = 2 ^ 63 - 1 := rfl
  have e4 : (0x7ff0000000000000 : UInt64).toNat = 9218868437227405312 := rfl
  rw [e3, e4, Nat.and_two_pow_sub_one_eq_mod]
  omega
theorem whole_fin {i : Int} {d : FP.Core.Datum} (h : FP.Core.Whole i d) : ∃ s c q, d = .fin s c q ∧ (i ≠ 0 → c ≠ 0) := by
  cases d with
  | nan => exact h.elim
  | inf s => exact h.elim
  | fin s c q =>
    refine ⟨s, c, q, rfl, fun hi hc => hi ?_⟩
    subst hc
    have h1 : FP.Core.signed s (0 * 2 ^ q.toNat) = i * ((2 ^ (-q).toNat : Nat) : Int) := h
    rw [Nat.zero_mul] at h1
    have h2 : FP.Core.signed s 0 = 0 := by cases s <;> rfl
    rw [h2] at h1
    have h3 : (0 : Int) < ((2 ^ (-q).toNat : Nat) : Int) := by exact_mod_cast Nat.two_pow_pos _
    rcases Int.mul_eq_zero.mp h1.symm with h4 | h4
    · exact h4
    · omega
theorem ratio_nan (f : FP.Core.Fmt) (s : Bool) (a b : Nat) (e : Int) : FP.Core.roundRatio f s a b e ≠ .nan := by
  unfold FP.Core.roundRatio
  split
  · exact fun z => by cases z
  · unfold FP.Core.roundAt FP.Core.settle
    split <;> (unfold FP.Core.bound; split <;> exact fun z => by cases z)
theorem slope_n64 {P Q : Int} (hP : -900000000000 ≤ P ∧ P ≤ 900000000000) (hQ : 1 ≤ Q ∧ Q ≤ 2200000000000) : vf_n64 (FP.ddiv (FP.l2d (iL P)) (FP.l2d (iL Q))) := by
  refine not_nan_n64 ?_
  have h1 := FP.Core.l2d_int (a := iL P) (by rw [iL_T (by omega)]; omega)
  have h2 := FP.Core.l2d_int (a := iL Q) (by rw [iL_T (by omega)]; omega)
  rw [iL_T (by omega)] at h1 h2
  obtain ⟨s, c, q, e1, -⟩ := whole_fin h1
  obtain ⟨t, d, r, e2, hd⟩ := whole_fin h2
  show FP.Core.val64 (FP.Core.ddiv (FP.Core.l2d (iL P)) (FP.Core.l2d (iL Q))) ≠ .nan
  rw [FP.Core.val64_ddiv, e1, e2]
  show (if d = 0 then _ else FP.Core.roundRatio _ _ _ _ _) ≠ _
  rw [if_neg (hd (by omega))]
  exact ratio_nan _ _ _ _ _
def slP (P Q : Int) : UInt64 := if Q ≤ 0 then FP.dconst0 else FP.ddiv (FP.l2d (iL P)) (FP.l2d (iL Q))
section JR9
variable {p : Program} {l : Launch} {e : Env} {R : Room} {s : State} {m : MethodId} {args : Array Value} {below : List Frame} {meth : Method} {c : Code} {Q : State → Prop} {D : va_G} {ca : Nat → ClassId} {base nL k n pc q : Nat} {lv lv' : List (Nat × Value)} {st : List Value} {w : Wd} {y : MethodName} {cc : ByteArray} {ret : Option FieldType}
theorem j_dconst0 (X : Cx p l s m args meth c y cc nL ret D ca base) (d : decode cc pc = .ok (.dconst 0, 1)) (hq : pc + 1 = q) (kk : J p l e R s m args below meth c Q D base nL k n q lv (.double FP.dconst0 :: st) w) : J p l e R s m args below meth c Q D base nL k n pc lv st w := by
  subst hq
  exact fun ls H locs hl hP hS => lv_dconst0 X.1 X.2.1 d (kk ls H locs hl hP hS)
end JR9
set_option maxRecDepth 100000 in
set_option maxHeartbeats 4000000 in
theorem c_X3_driftsOut {l : Launch} (hlt : l.stackTraces = false) {D : va_G} {ca : Nat → ClassId} {base : Nat} {ad : Nat → Int → Nat} {n nc nm : Int} {S : St} {w : Wd} (hC : CW base ca ad n nc nm S w) (hI : IC n nc nm S) (z : Int) (hz : -2147483648 ≤ z ∧ z ≤ 2147483647) : CT l D ca base yX3_driftsOut cX3_driftsOut 6 (some .int) 3 1 6 [.ref (ad 0 0), .int (iI (z))] w (fun v w' => (0 ≤ z ∧ z < n) ∧ v = some (.int (iI (drS S z))) ∧ w = w') (fun E w' => ¬ (0 ≤ z ∧ z < n) ∧ E = nIO ∧ w = w') := by
  obtain ⟨hn, hnc, hnm, e3, e4, e5, h6, h7, h8⟩ := hI.top
  refine CT.mk hlt (by decide +kernel) (by first | exact Nat.le_of_ble_eq_true rfl | simp [lg_sl, cat_rf, cat_i, cat_l, cat_r]) ?_
  intro p e s m args below meth c X htab
  rw [show lv_args 0 [.ref (ad 0 0), .int (iI (z))] = [(0, .ref (ad 0 0)), (1, .int (iI (z)))] from by first | rfl | simp [lv_args, cat_rf, cat_i, cat_l, cat_r]]
  refine j_aload_n X dX3_driftsOut_0 (q := 1) rfl 0 rfl ?_
  refine j_iload_n X dX3_driftsOut_1 (q := 2) rfl 1 rfl ?_
  refine j_callV X (As := [.int (iI (z))]) (st := []) hC.cal rfl (c_X3_known hlt hC hI z hz) sv_X3_54 (by decide) rfl (by first | decide | simp [cat_rf, cat_i, cat_l, cat_r]) dX3_driftsOut_2 (by decide) (fun E w' h => jx_out X htab h (by decide) (by decide)) ?_
  rintro v9 w9 ⟨k1, rfl, rfl⟩
  refine j_st (st := [va_rf (pt (ad 1) (z))]) ?_
  obtain ⟨f_1_0, f_1_1, f_1_2, f_1_3, f_1_4, f_1_5, f_1_6, f_1_7, f_1_8⟩ := hI.ins k1.1 k1.2
  refine j_astoreq_n X (i := 2) dX3_driftsOut_5 rfl (by decide) (q := 6) rfl (lv' := [(2, va_rf (pt (ad 1) (z))), (0, .ref (ad 0 0)), (1, .int (iI (z)))]) (by first | rfl | simp [cat_rf, cat_i, cat_l, cat_r]) ?_
  refine j_aloadq_n X dX3_driftsOut_6 (q := 7) rfl 0 rfl ?_
  refine j_getp X (v := va_rf (pt (ad 2) (S 15 z))) fl_X3_95 k1.1 (hC.ins k1.1 k1.2) rfl dX3_driftsOut_7 (q := 10) rfl ?_
  refine j_astoreq_n X (i := 3) dX3_driftsOut_10 rfl (by decide) (q := 11) rfl (lv' := [(3, va_rf (pt (ad 2) (S 15 z))), (2, va_rf (pt (ad 1) (z))), (0, .ref (ad 0 0)), (1, .int (iI (z)))]) (by first | rfl | simp [cat_rf, cat_i, cat_l, cat_r]) ?_
  refine j_aloadq_n X dX3_driftsOut_11 (q := 12) rfl 0 rfl ?_
  refine j_ifnonnullp X (tgt := 17) dX3_driftsOut_12 (by decide) (q := 15) rfl (fun c_12 => ?_) (fun c_12 => ?_)
  · skip
    obtain ⟨f_2_0, f_2_1, f_2_2, f_2_3, f_2_4, f_2_5, f_2_6, f_2_7, f_2_8, f_2_9⟩ := hI.kal c_12 (by omega)
    refine j_aloadq_n X dX3_driftsOut_17 (q := 18) rfl 1 rfl ?_
    refine j_aloadq_n X dX3_driftsOut_18 (q := 19) rfl 0 rfl ?_
    refine j_iconst X (a := 0) dX3_driftsOut_19 (q := 20) rfl ?_
    refine j_callS X (As := [va_rf (pt (ad 1) (z)), va_rf (pt (ad 2) (S 15 z)), .int (iI (0))]) (st := [])  (c_X3_isOutAfter hlt hC hI z (S 15 z) 0 k1 ⟨c_12, by omega⟩ (by decide)) ss_X3_199 (by decide) rfl (by first | decide | simp [cat_rf, cat_i, cat_l, cat_r]) dX3_driftsOut_20 (by decide) (fun _ _ h => h.elim) ?_
    rintro v9 w9 ⟨rfl, rfl⟩
    refine j_st (st := [.int (iI (oS S z (S 15 z) 0))]) ?_
    have hb9 : 0 ≤ oS S z (S 15 z) 0 ∧ oS S z (S 15 z) 0 ≤ 1 := tf_b _
    refine j_if_eq X (tgt := 28) dX3_driftsOut_23 (by decide) (q := 26) rfl (by omega) (fun c_23 => ?_) (fun c_23 => ?_)
    · skip
      have hz0 : oS S z (S 15 z) 0 = 0 := by omega
      refine j_iconst X (a := 0) dX3_driftsOut_28 (q := 29) rfl ?_
      refine j_istore X (i := 4) dX3_driftsOut_29 (by decide) (q := 31) rfl (lv' := [(4, .int (iI (0))), (3, va_rf (pt (ad 2) (S 15 z))), (2, va_rf (pt (ad 1) (z))), (0, .ref (ad 0 0)), (1, .int (iI (z)))]) (by first | rfl | simp [cat_rf, cat_i, cat_l, cat_r]) ?_
      refine j_sipush X (a := 8192) (by decide +kernel) dX3_driftsOut_31 (q := 34) rfl ?_
      refine j_istore X (i := 5) dX3_driftsOut_34 (by decide) (q := 36) rfl (lv' := [(5, .int (iI (8192))), (4, .int (iI (0))), (3, va_rf (pt (ad 2) (S 15 z))), (2, va_rf (pt (ad 1) (z))), (0, .ref (ad 0 0)), (1, .int (iI (z)))]) (by first | rfl | simp [cat_rf, cat_i, cat_l, cat_r]) ?_
      have loop : ∀ (kk : Nat) (b : Int), kk ≤ 14 → (0 ≤ b ∧ b ≤ 9999) → oS S z (S 15 z) b = 0 → (9999 < b + ((2 ^ kk : Nat) : Int) ∨ oS S z (S 15 z) (b + ((2 ^ kk : Nat) : Int)) = 1) → J p l e (Rm 3 1 6) s m args below meth c (vx_MQ below (Qn D base (fun v w' => (0 ≤ z ∧ z < n) ∧ v = some (.int (iI (drS S z))) ∧ w = w')) (Xn D base (fun E w' => ¬ (0 ≤ z ∧ z < n) ∧ E = nIO ∧ w = w')) args s 1 6 (fun q => base ≤ q)) D base 6 1 6 36 [(2, va_rf (pt (ad 1) (z))), (3, va_rf (pt (ad 2) (S 15 z))), (4, .int (iI (b))), (5, .int (iI (((2 ^ kk / 2 : Nat) : Int))))] [] w := by
        intro kk
        induction kk with
        | zero =>
          intro b hk hb h1 h2
          have e0 : ((2 ^ 0 / 2 : Nat) : Int) = 0 := rfl
          have e1 : ((2 ^ 0 : Nat) : Int) = 1 := rfl
          rw [e1] at h2
          rw [e0]
          have hlow : ∀ t, 0 ≤ t → t ≤ b → oS S z (S 15 z) t ≠ 1 := fun t a0 a1 z1 => by have := oS_mono hz0 a0 a1 z1; omega
          refine j_iload X dX3_driftsOut_36 (q := 38) rfl 3 rfl ?_
          refine j_if_le X (tgt := 81) dX3_driftsOut_38 (by decide) (q := 41) rfl (by omega) (fun c_38 => ?_) (fun c_38 => ?_)
          · skip
            refine j_iload X dX3_driftsOut_81 (q := 83) rfl 2 rfl ?_
            refine j_sipush X (a := 9999) (by decide +kernel) dX3_driftsOut_83 (q := 86) rfl ?_
            refine j_icmp_ne X (tgt := 93) dX3_driftsOut_86 (by decide) (q := 89) rfl (by omega) (by omega) (fun c_86 => ?_) (fun c_86 => ?_)
            · skip
              refine j_iload X dX3_driftsOut_93 (q := 95) rfl 2 rfl ?_
              refine j_iconst X (a := 1) dX3_driftsOut_95 (q := 96) rfl ?_
              refine j_iadd X dX3_driftsOut_96 (q := 97) rfl ?_
              exact j_iret X rfl dX3_driftsOut_97 (⟨k1, by rw [drS, if_neg (by omega), drF_of 10000 0 (r := b + 1) (by omega) (by omega) (by omega) (fun t a0 a1 => hlow t a0 (by omega))], rfl⟩) (by decide) (by decide)
            · skip
              refine j_iconst X (a := -1) dX3_driftsOut_89 (q := 90) rfl ?_
              refine j_goto X (tgt := 97) dX3_driftsOut_90 (by decide) ?_
              exact j_iret X rfl dX3_driftsOut_97 (⟨k1, by rw [drS, if_neg (by omega), drF_no 10000 0 (fun t a0 a1 => hlow t a0 (by omega))], rfl⟩) (by decide) (by decide)
          · skip
            exact absurd c_38 (by decide)
        | succ kk ih =>
          intro b hk hb h1 h2
          obtain ⟨q1, q2⟩ := p2_b (show kk ≤ 13 by omega)
          have e1 : ((2 ^ (kk + 1) : Nat) : Int) = ((2 ^ kk : Nat) : Int) + ((2 ^ kk : Nat) : Int) := by rw [Nat.pow_succ]; omega
          rw [e1] at h2
          rw [p2_half]
          have et : Int.tdiv ((2 ^ kk : Nat) : Int) 2 = ((2 ^ kk / 2 : Nat) : Int) := rfl
          generalize hp : ((2 ^ kk : Nat) : Int) = p9 at *
          have q1b : 1 ≤ p9 ∧ p9 ≤ 8192 := by omega
          refine j_iload X dX3_driftsOut_36 (q := 38) rfl 3 rfl ?_
          refine j_if_le X (tgt := 81) dX3_driftsOut_38 (by decide) (q := 41) rfl (by omega) (fun c_38 => ?_) (fun c_38 => ?_)
          · skip
            exact absurd c_38 (by omega)
          · skip
            refine j_iload X dX3_driftsOut_41 (q := 43) rfl 2 rfl ?_
            refine j_iload X dX3_driftsOut_43 (q := 45) rfl 3 rfl ?_
            refine j_iadd X dX3_driftsOut_45 (q := 46) rfl ?_
            refine j_sipush X (a := 9999) (by decide +kernel) dX3_driftsOut_46 (q := 49) rfl ?_
            refine j_icmp_gt X (tgt := 72) dX3_driftsOut_49 (by decide) (q := 52) rfl (by omega) (by omega) (fun c_49 => ?_) (fun c_49 => ?_)
            · skip
              refine j_iload X dX3_driftsOut_72 (q := 74) rfl 3 rfl ?_
              refine j_iconst X (a := 2) dX3_driftsOut_74 (q := 75) rfl ?_
              refine j_idiv X (by omega) (by omega) dX3_driftsOut_75 (q := 76) rfl ?_
              refine j_istore X (i := 5) dX3_driftsOut_76 (by decide) (q := 78) rfl (lv' := [(5, .int (iI (Int.tdiv (p9) (2)))), (2, va_rf (pt (ad 1) (z))), (3, va_rf (pt (ad 2) (S 15 z))), (4, .int (iI (b)))]) (by first | rfl | simp [cat_rf, cat_i, cat_l, cat_r]) ?_
              refine j_goto X (tgt := 36) dX3_driftsOut_78 (by decide) ?_
              rw [et]
              exact j_lv (ih b (by omega) hb h1 (Or.inl (by omega))) [1, 2, 3, 0] rfl
            · skip
              refine j_aloadq_n X dX3_driftsOut_52 (q := 53) rfl 0 rfl ?_
              refine j_aloadq_n X dX3_driftsOut_53 (q := 54) rfl 1 rfl ?_
              refine j_iload X dX3_driftsOut_54 (q := 56) rfl 2 rfl ?_
              refine j_iload X dX3_driftsOut_56 (q := 58) rfl 3 rfl ?_
              refine j_iadd X dX3_driftsOut_58 (q := 59) rfl ?_
              refine j_callS X (As := [va_rf (pt (ad 1) (z)), va_rf (pt (ad 2) (S 15 z)), .int (iI (b + p9))]) (st := [])  (c_X3_isOutAfter hlt hC hI z (S 15 z) (b + p9) k1 ⟨c_12, by omega⟩ (by omega)) ss_X3_199 (by decide) rfl (by first | decide | simp [cat_rf, cat_i, cat_l, cat_r]) dX3_driftsOut_59 (by decide) (fun _ _ h => h.elim) ?_
              rintro v9 w9 ⟨rfl, rfl⟩
              refine j_st (st := [.int (iI (oS S z (S 15 z) (b + p9)))]) ?_
              have hb9 : 0 ≤ oS S z (S 15 z) (b + p9) ∧ oS S z (S 15 z) (b + p9) ≤ 1 := tf_b _
              refine j_if_ne X (tgt := 72) dX3_driftsOut_62 (by decide) (q := 65) rfl (by omega) (fun c_62 => ?_) (fun c_62 => ?_)
              · skip
                refine j_iload X dX3_driftsOut_72 (q := 74) rfl 3 rfl ?_
                refine j_iconst X (a := 2) dX3_driftsOut_74 (q := 75) rfl ?_
                refine j_idiv X (by omega) (by omega) dX3_driftsOut_75 (q := 76) rfl ?_
                refine j_istore X (i := 5) dX3_driftsOut_76 (by decide) (q := 78) rfl (lv' := [(5, .int (iI (Int.tdiv (p9) (2)))), (2, va_rf (pt (ad 1) (z))), (3, va_rf (pt (ad 2) (S 15 z))), (4, .int (iI (b)))]) (by first | rfl | simp [cat_rf, cat_i, cat_l, cat_r]) ?_
                refine j_goto X (tgt := 36) dX3_driftsOut_78 (by decide) ?_
                rw [et]
                exact j_lv (ih b (by omega) hb h1 (Or.inr (by omega))) [1, 2, 3, 0] rfl
              · skip
                refine j_iload X dX3_driftsOut_65 (q := 67) rfl 2 rfl ?_
                refine j_iload X dX3_driftsOut_67 (q := 69) rfl 3 rfl ?_
                refine j_iadd X dX3_driftsOut_69 (q := 70) rfl ?_
                refine j_istore X (i := 4) dX3_driftsOut_70 (by decide) (q := 72) rfl (lv' := [(4, .int (iI (b + p9))), (2, va_rf (pt (ad 1) (z))), (3, va_rf (pt (ad 2) (S 15 z))), (5, .int (iI (p9)))]) (by first | rfl | simp [cat_rf, cat_i, cat_l, cat_r]) ?_
                refine j_iload X dX3_driftsOut_72 (q := 74) rfl 3 rfl ?_
                refine j_iconst X (a := 2) dX3_driftsOut_74 (q := 75) rfl ?_
                refine j_idiv X (by omega) (by omega) dX3_driftsOut_75 (q := 76) rfl ?_
                refine j_istore X (i := 5) dX3_driftsOut_76 (by decide) (q := 78) rfl (lv' := [(5, .int (iI (Int.tdiv (p9) (2)))), (4, .int (iI (b + p9))), (2, va_rf (pt (ad 1) (z))), (3, va_rf (pt (ad 2) (S 15 z)))]) (by first | rfl | simp [cat_rf, cat_i, cat_l, cat_r]) ?_
                refine j_goto X (tgt := 36) dX3_driftsOut_78 (by decide) ?_
                rw [et]
                exact j_lv (ih (b + p9) (by omega) (by omega) (by omega) (by rw [show b + p9 + p9 = b + (p9 + p9) by omega]; exact h2)) [2, 3, 1, 0] rfl
      exact j_lv (loop 14 0 (by decide) (by decide) hz0 (Or.inl (by decide))) [3, 2, 1, 0] rfl
    · skip
      refine j_iconst X (a := 0) dX3_driftsOut_26 (q := 27) rfl ?_
      exact j_iret X rfl dX3_driftsOut_27 (⟨k1, by rw [drS, if_neg (by omega), drF_of 10000 0 (Int.le_refl 0) (by decide) (by omega) (fun t a b => by omega)], rfl⟩) (by decide) (by decide)
  · skip
    refine j_iconst X (a := -1) dX3_driftsOut_15 (q := 16) rfl ?_
    exact j_iret X rfl dX3_driftsOut_16 (⟨k1, by rw [drS, if_pos c_12], rfl⟩) (by decide) (by decide)

set_option maxRecDepth 100000 in
set_option maxHeartbeats 4000000 in
theorem c_X3_slope {l : Launch} (hlt : l.stackTraces = false) {D : va_G} {ca : Nat → ClassId} {base : Nat} {ad : Nat → Int → Nat} {n nc nm : Int} {S : St} {w : Wd} (hC : CW base ca ad n nc nm S w) (hI : IC n nc nm S) (z : Int) (hz : -2147483648 ≤ z ∧ z ≤ 2147483647) : CT l D ca base yX3_slope cX3_slope 3 (some .double) 2 1 6 [.ref (ad 0 0), .int (iI (z))] w (fun v w' => (0 ≤ z ∧ z < n) ∧ v = some (.double (slP (S 17 z) (S 18 z))) ∧ w = w') (fun E w' => ¬ (0 ≤ z ∧ z < n) ∧ E = nIO ∧ w = w') := by
  obtain ⟨hn, hnc, hnm, e3, e4, e5, h6, h7, h8⟩ := hI.top
  refine CT.mk hlt (by decide +kernel) (by first | exact Nat.le_of_ble_eq_true rfl | simp [lg_sl, cat_rf, cat_i, cat_l, cat_r]) ?_
  intro p e s m args below meth c X htab
  rw [show lv_args 0 [.ref (ad 0 0), .int (iI (z))] = [(0, .ref (ad 0 0)), (1, .int (iI (z)))] from by first | rfl | simp [lv_args, cat_rf, cat_i, cat_l, cat_r]]
  refine j_aload_n X dX3_slope_0 (q := 1) rfl 0 rfl ?_
  refine j_iload_n X dX3_slope_1 (q := 2) rfl 1 rfl ?_
  refine j_callV X (As := [.int (iI (z))]) (st := []) hC.cal rfl (c_X3_known hlt hC hI z hz) sv_X3_54 (by decide) rfl (by first | decide | simp [cat_rf, cat_i, cat_l, cat_r]) dX3_slope_2 (by decide) (fun E w' h => jx_out X htab h (by decide) (by decide)) ?_
  rintro v9 w9 ⟨k1, rfl, rfl⟩
  refine j_st (st := [va_rf (pt (ad 1) (z))]) ?_
  obtain ⟨f_3_0, f_3_1, f_3_2, f_3_3, f_3_4, f_3_5, f_3_6, f_3_7, f_3_8⟩ := hI.ins k1.1 k1.2
  refine j_astoreq_n X (i := 2) dX3_slope_5 rfl (by decide) (q := 6) rfl (lv' := [(2, va_rf (pt (ad 1) (z))), (0, .ref (ad 0 0)), (1, .int (iI (z)))]) (by first | rfl | simp [cat_rf, cat_i, cat_l, cat_r]) ?_
  refine j_aloadq_n X dX3_slope_6 (q := 7) rfl 0 rfl ?_
  refine j_getp X (v := .long (iL (S 18 z))) fl_X3_176 k1.1 (hC.ins k1.1 k1.2) rfl dX3_slope_7 (q := 10) rfl ?_
  refine j_lconst X (a := 0) (by decide +kernel) dX3_slope_10 (q := 11) rfl ?_
  refine j_lcmp X (by omega) (by omega) dX3_slope_11 (q := 12) rfl ?_
  refine j_if_gt X (tgt := 17) dX3_slope_12 (by decide) (q := 15) rfl (cmpI_r _ _) (fun c_12 => ?_) (fun c_12 => ?_)
  · skip
    refine j_aloadq_n X dX3_slope_17 (q := 18) rfl 0 rfl ?_
    refine j_getp X (v := .long (iL (S 17 z))) fl_X3_172 k1.1 (hC.ins k1.1 k1.2) rfl dX3_slope_18 (q := 21) rfl ?_
    refine j_l2d X dX3_slope_21 (q := 22) rfl ?_
    refine j_aloadq_n X dX3_slope_22 (q := 23) rfl 0 rfl ?_
    refine j_getp X (v := .long (iL (S 18 z))) fl_X3_176 k1.1 (hC.ins k1.1 k1.2) rfl dX3_slope_23 (q := 26) rfl ?_
    refine j_l2d X dX3_slope_26 (q := 27) rfl ?_
    have c_12b := cmpI_gt.mp c_12
    refine j_ddiv X (slope_n64 (by omega) (by omega)) dX3_slope_27 (q := 28) rfl ?_
    exact j_dret X rfl dX3_slope_28 (⟨k1, by rw [slP, if_neg (by omega)], rfl⟩) (by decide) (by decide)
  · skip
    refine j_dconst0 X dX3_slope_15 (q := 16) rfl ?_
    exact j_dret X rfl dX3_slope_16 (⟨k1, by rw [slP, if_pos (cmpI_le.mp c_12)], rfl⟩) (by decide) (by decide)
end
section
section JPUT
variable {p : Program} {l : Launch} {e : Env} {R : Room} {s : State} {m : MethodId} {args : Array Value} {below : List Frame} {meth : Method} {c : Code} {Q : State → Prop} {D : va_G} {ca : Nat → ClassId} {base nL k n pc q : Nat} {lv lv' : List (Nat × Value)} {st : List Value} {w : Wd} {y : MethodName} {cc : ByteArray} {ret : Option FieldType} {ad : Nat → Int → Nat} {ni nc nm : Int} {S : St}
theorem nar_rf (C : String) (r : Option Nat) : narrow (.object C) (va_rf r) = va_rf r := by cases r <;> rfl
theorem fit_rf (C : String) (r : Option Nat) : fits (.object C) (va_rf r) = true := by cases r <;> rfl
theorem nar_z {x : Int32} (h : x = 0 ∨ x = 1) : narrow .boolean (.int x) = .int x := by rcases h with rfl | rfl <;> rfl
theorem fit_z {x : Int32} (h : x = 0 ∨ x = 1) : fits .boolean (.int x) = true := by rcases h with rfl | rfl <;> rfl
theorem j_w {w' : Wd} (h : w = w') (kk : J p l e R s m args below meth c Q D base nL k n pc lv st w') : J p l e R s m args below meth c Q D base nL k n pc lv st w := by rw [h]; exact kk
theorem wu_wu {a : Nat} {e1 e2 : va_E} : wu (wu w a e1) a e2 = wu w a e2 := by
  funext q
  unfold wu
  split <;> rfl
theorem jp_10 (X : Cx p l s m args meth c y cc nL ret D ca base) {idx : Nat} {i z : Int} (hf : FP y.cls idx 1 0 .int false) (hC : CW base ca ad ni nc nm S w) (h0 : 0 ≤ i) (h1 : i < ni) (d : decode cc pc = .ok (.putfield idx, 3)) (hq : pc + 3 = q) (kk : ∀ w', CW base ca ad ni nc nm (up S 10 i z) w' → Fr 0 w w' → J p l e R s m args below meth c Q D base nL k n q lv st w') : J p l e R s m args below meth c Q D base nL k n pc lv (.int (iI z) :: va_rf (pt (ad 1) i) :: st) w := by
  rw [pt_s (ad := ad 1) h0]
  exact j_put X hf (hC.ins h0 h1) (Nat.le_of_ble_eq_true rfl) rfl rfl (hC.b1 h0 h1) d hq (kk _ (hC.put10 h0 h1 z) (Fr.set (hC.ins h0 h1) rfl))
theorem jp_11 (X : Cx p l s m args meth c y cc nL ret D ca base) {idx : Nat} {i z : Int} (hf : FP y.cls idx 1 1 .int false) (hC : CW base ca ad ni nc nm S w) (h0 : 0 ≤ i) (h1 : i < ni) (d : decode cc pc = .ok (.putfield idx, 3)) (hq : pc + 3 = q) (kk : ∀ w', CW base ca ad ni nc nm (up S 11 i z) w' → Fr 0 w w' → J p l e R s m args below meth c Q D base nL k n q lv st w') : J p l e R s m args below meth c Q D base nL k n pc lv (.int (iI z) :: va_rf (pt (ad 1) i) :: st) w := by
  rw [pt_s (ad := ad 1) h0]
  exact j_put X hf (hC.ins h0 h1) (Nat.le_of_ble_eq_true rfl) rfl rfl (hC.b1 h0 h1) d hq (kk _ (hC.put11 h0 h1 z) (Fr.set (hC.ins h0 h1) rfl))
theorem jp_12 (X : Cx p l s m args meth c y cc nL ret D ca base) {idx : Nat} {i z : Int} (hf : FP y.cls idx 1 2 .int false) (hC : CW base ca ad ni nc nm S w) (h0 : 0 ≤ i) (h1 : i < ni) (d : decode cc pc = .ok (.putfield idx, 3)) (hq : pc + 3 = q) (kk : ∀ w', CW base ca ad ni nc nm (up S 12 i z) w' → Fr 0 w w' → J p l e R s m args below meth c Q D base nL k n q lv st w') : J p l e R s m args below meth c Q D base nL k n pc lv (.int (iI z) :: va_rf (pt (ad 1) i) :: st) w := by
  rw [pt_s (ad := ad 1) h0]
  exact j_put X hf (hC.ins h0 h1) (Nat.le_of_ble_eq_true rfl) rfl rfl (hC.b1 h0 h1) d hq (kk _ (hC.put12 h0 h1 z) (Fr.set (hC.ins h0 h1) rfl))
theorem jp_13 (X : Cx p l s m args meth c y cc nL ret D ca base) {idx : Nat} {i z : Int} (hf : FP y.cls idx 1 3 .int false) (hC : CW base ca ad ni nc nm S w) (h0 : 0 ≤ i) (h1 : i < ni) (d : decode cc pc = .ok (.putfield idx, 3)) (hq : pc + 3 = q) (kk : ∀ w', CW base ca ad ni nc nm (up S 13 i z) w' → Fr 0 w w' → J p l e R s m args below meth c Q D base nL k n q lv st w') : J p l e R s m args below meth c Q D base nL k n pc lv (.int (iI z) :: va_rf (pt (ad 1) i) :: st) w := by
  rw [pt_s (ad := ad 1) h0]
  exact j_put X hf (hC.ins h0 h1) (Nat.le_of_ble_eq_true rfl) rfl rfl (hC.b1 h0 h1) d hq (kk _ (hC.put13 h0 h1 z) (Fr.set (hC.ins h0 h1) rfl))
theorem jp_14 (X : Cx p l s m args meth c y cc nL ret D ca base) {idx : Nat} {i z : Int} (hf : FP y.cls idx 1 4 (.object "Calibratory$Instrument") false) (hC : CW base ca ad ni nc nm S w) (h0 : 0 ≤ i) (h1 : i < ni) (d : decode cc pc = .ok (.putfield idx, 3)) (hq : pc + 3 = q) (kk : ∀ w', CW base ca ad ni nc nm (up S 14 i z) w' → Fr 0 w w' → J p l e R s m args below meth c Q D base nL k n q lv st w') : J p l e R s m args below meth c Q D base nL k n pc lv (va_rf (pt (ad 1) z) :: va_rf (pt (ad 1) i) :: st) w := by
  rw [pt_s (ad := ad 1) h0]
  exact j_put X hf (hC.ins h0 h1) (Nat.le_of_ble_eq_true rfl) (nar_rf _ _) (fit_rf _ _) (hC.b1 h0 h1) d hq (kk _ (hC.put14 h0 h1 z) (Fr.set (hC.ins h0 h1) rfl))
theorem jp_15 (X : Cx p l s m args meth c y cc nL ret D ca base) {idx : Nat} {i z : Int} (hf : FP y.cls idx 1 5 (.object "Calibratory$Calibration") false) (hC : CW base ca ad ni nc nm S w) (h0 : 0 ≤ i) (h1 : i < ni) (d : decode cc pc = .ok (.putfield idx, 3)) (hq : pc + 3 = q) (kk : ∀ w', CW base ca ad ni nc nm (up S 15 i z) w' → Fr 0 w w' → J p l e R s m args below meth c Q D base nL k n q lv st w') : J p l e R s m args below meth c Q D base nL k n pc lv (va_rf (pt (ad 2) z) :: va_rf (pt (ad 1) i) :: st) w := by
  rw [pt_s (ad := ad 1) h0]
  exact j_put X hf (hC.ins h0 h1) (Nat.le_of_ble_eq_true rfl) (nar_rf _ _) (fit_rf _ _) (hC.b1 h0 h1) d hq (kk _ (hC.put15 h0 h1 z) (Fr.set (hC.ins h0 h1) rfl))
theorem jp_16 (X : Cx p l s m args meth c y cc nL ret D ca base) {idx : Nat} {i z : Int} (hf : FP y.cls idx 1 6 .int false) (hC : CW base ca ad ni nc nm S w) (h0 : 0 ≤ i) (h1 : i < ni) (d : decode cc pc = .ok (.putfield idx, 3)) (hq : pc + 3 = q) (kk : ∀ w', CW base ca ad ni nc nm (up S 16 i z) w' → Fr 0 w w' → J p l e R s m args below meth c Q D base nL k n q lv st w') : J p l e R s m args below meth c Q D base nL k n pc lv (.int (iI z) :: va_rf (pt (ad 1) i) :: st) w := by
  rw [pt_s (ad := ad 1) h0]
  exact j_put X hf (hC.ins h0 h1) (Nat.le_of_ble_eq_true rfl) rfl rfl (hC.b1 h0 h1) d hq (kk _ (hC.put16 h0 h1 z) (Fr.set (hC.ins h0 h1) rfl))
theorem jp_17 (X : Cx p l s m args meth c y cc nL ret D ca base) {idx : Nat} {i z : Int} (hf : FP y.cls idx 1 7 .long false) (hC : CW base ca ad ni nc nm S w) (h0 : 0 ≤ i) (h1 : i < ni) (d : decode cc pc = .ok (.putfield idx, 3)) (hq : pc + 3 = q) (kk : ∀ w', CW base ca ad ni nc nm (up S 17 i z) w' → Fr 0 w w' → J p l e R s m args below meth c Q D base nL k n q lv st w') : J p l e R s m args below meth c Q D base nL k n pc lv (.long (iL z) :: va_rf (pt (ad 1) i) :: st) w := by
  rw [pt_s (ad := ad 1) h0]
  exact j_put X hf (hC.ins h0 h1) (Nat.le_of_ble_eq_true rfl) rfl rfl (hC.b1 h0 h1) d hq (kk _ (hC.put17 h0 h1 z) (Fr.set (hC.ins h0 h1) rfl))
theorem jp_18 (X : Cx p l s m args meth c y cc nL ret D ca base) {idx : Nat} {i z : Int} (hf : FP y.cls idx 1 8 .long false) (hC : CW base ca ad ni nc nm S w) (h0 : 0 ≤ i) (h1 : i < ni) (d : decode cc pc = .ok (.putfield idx, 3)) (hq : pc + 3 = q) (kk : ∀ w', CW base ca ad ni nc nm (up S 18 i z) w' → Fr 0 w w' → J p l e R s m args below meth c Q D base nL k n q lv st w') : J p l e R s m args below meth c Q D base nL k n pc lv (.long (iL z) :: va_rf (pt (ad 1) i) :: st) w := by
  rw [pt_s (ad := ad 1) h0]
  exact j_put X hf (hC.ins h0 h1) (Nat.le_of_ble_eq_true rfl) rfl rfl (hC.b1 h0 h1) d hq (kk _ (hC.put18 h0 h1 z) (Fr.set (hC.ins h0 h1) rfl))
theorem jp_20 (X : Cx p l s m args meth c y cc nL ret D ca base) {idx : Nat} {i z : Int} (hf : FP y.cls idx 0 0 .int false) (hC : CW base ca ad ni nc nm S w) (h0 : 0 ≤ i) (h1 : i < nc) (d : decode cc pc = .ok (.putfield idx, 3)) (hq : pc + 3 = q) (kk : ∀ w', CW base ca ad ni nc nm (up S 20 i z) w' → Fr 0 w w' → J p l e R s m args below meth c Q D base nL k n q lv st w') : J p l e R s m args below meth c Q D base nL k n pc lv (.int (iI z) :: va_rf (pt (ad 2) i) :: st) w := by
  rw [pt_s (ad := ad 2) h0]
  exact j_put X hf (hC.kal h0 h1) (Nat.le_of_ble_eq_true rfl) rfl rfl (hC.b2 h0 h1) d hq (kk _ (hC.put20 h0 h1 z) (Fr.set (hC.kal h0 h1) rfl))
theorem jp_21 (X : Cx p l s m args meth c y cc nL ret D ca base) {idx : Nat} {i z : Int} (hf : FP y.cls idx 0 1 .int false) (hC : CW base ca ad ni nc nm S w) (h0 : 0 ≤ i) (h1 : i < nc) (d : decode cc pc = .ok (.putfield idx, 3)) (hq : pc + 3 = q) (kk : ∀ w', CW base ca ad ni nc nm (up S 21 i z) w' → Fr 0 w w' → J p l e R s m args below meth c Q D base nL k n q lv st w') : J p l e R s m args below meth c Q D base nL k n pc lv (.int (iI z) :: va_rf (pt (ad 2) i) :: st) w := by
  rw [pt_s (ad := ad 2) h0]
  exact j_put X hf (hC.kal h0 h1) (Nat.le_of_ble_eq_true rfl) rfl rfl (hC.b2 h0 h1) d hq (kk _ (hC.put21 h0 h1 z) (Fr.set (hC.kal h0 h1) rfl))
theorem jp_22 (X : Cx p l s m args meth c y cc nL ret D ca base) {idx : Nat} {i z : Int} (hf : FP y.cls idx 0 2 .int false) (hC : CW base ca ad ni nc nm S w) (h0 : 0 ≤ i) (h1 : i < nc) (d : decode cc pc = .ok (.putfield idx, 3)) (hq : pc + 3 = q) (kk : ∀ w', CW base ca ad ni nc nm (up S 22 i z) w' → Fr 0 w w' → J p l e R s m args below meth c Q D base nL k n q lv st w') : J p l e R s m args below meth c Q D base nL k n pc lv (.int (iI z) :: va_rf (pt (ad 2) i) :: st) w := by
  rw [pt_s (ad := ad 2) h0]
  exact j_put X hf (hC.kal h0 h1) (Nat.le_of_ble_eq_true rfl) rfl rfl (hC.b2 h0 h1) d hq (kk _ (hC.put22 h0 h1 z) (Fr.set (hC.kal h0 h1) rfl))
theorem jp_23 (X : Cx p l s m args meth c y cc nL ret D ca base) {idx : Nat} {i z : Int} (hf : FP y.cls idx 0 3 (.object "Calibratory$Calibration") false) (hC : CW base ca ad ni nc nm S w) (h0 : 0 ≤ i) (h1 : i < nc) (d : decode cc pc = .ok (.putfield idx, 3)) (hq : pc + 3 = q) (kk : ∀ w', CW base ca ad ni nc nm (up S 23 i z) w' → Fr 0 w w' → J p l e R s m args below meth c Q D base nL k n q lv st w') : J p l e R s m args below meth c Q D base nL k n pc lv (va_rf (pt (ad 2) z) :: va_rf (pt (ad 2) i) :: st) w := by
  rw [pt_s (ad := ad 2) h0]
  exact j_put X hf (hC.kal h0 h1) (Nat.le_of_ble_eq_true rfl) (nar_rf _ _) (fit_rf _ _) (hC.b2 h0 h1) d hq (kk _ (hC.put23 h0 h1 z) (Fr.set (hC.kal h0 h1) rfl))
theorem jp_24 (X : Cx p l s m args meth c y cc nL ret D ca base) {idx : Nat} {i z : Int} (hf : FP y.cls idx 0 4 (.object "Calibratory$Calibration") false) (hC : CW base ca ad ni nc nm S w) (h0 : 0 ≤ i) (h1 : i < nc) (d : decode cc pc = .ok (.putfield idx, 3)) (hq : pc + 3 = q) (kk : ∀ w', CW base ca ad ni nc nm (up S 24 i z) w' → Fr 0 w w' → J p l e R s m args below meth c Q D base nL k n q lv st w') : J p l e R s m args below meth c Q D base nL k n pc lv (va_rf (pt (ad 2) z) :: va_rf (pt (ad 2) i) :: st) w := by
  rw [pt_s (ad := ad 2) h0]
  exact j_put X hf (hC.kal h0 h1) (Nat.le_of_ble_eq_true rfl) (nar_rf _ _) (fit_rf _ _) (hC.b2 h0 h1) d hq (kk _ (hC.put24 h0 h1 z) (Fr.set (hC.kal h0 h1) rfl))
theorem jp_25 (X : Cx p l s m args meth c y cc nL ret D ca base) {idx : Nat} {i z : Int} (hf : FP y.cls idx 0 5 .boolean false) (hC : CW base ca ad ni nc nm S w) (h0 : 0 ≤ i) (h1 : i < nc) (hz : iI z = 0 ∨ iI z = 1) (d : decode cc pc = .ok (.putfield idx, 3)) (hq : pc + 3 = q) (kk : ∀ w', CW base ca ad ni nc nm (up S 25 i z) w' → Fr 0 w w' → J p l e R s m args below meth c Q D base nL k n q lv st w') : J p l e R s m args below meth c Q D base nL k n pc lv (.int (iI z) :: va_rf (pt (ad 2) i) :: st) w := by
  rw [pt_s (ad := ad 2) h0]
  exact j_put X hf (hC.kal h0 h1) (Nat.le_of_ble_eq_true rfl) (nar_z hz) (fit_z hz) (hC.b2 h0 h1) d hq (kk _ (hC.put25 h0 h1 z) (Fr.set (hC.kal h0 h1) rfl))
theorem jp_26 (X : Cx p l s m args meth c y cc nL ret D ca base) {idx : Nat} {i z : Int} (hf : FP y.cls idx 0 6 .boolean false) (hC : CW base ca ad ni nc nm S w) (h0 : 0 ≤ i) (h1 : i < nc) (hz : iI z = 0 ∨ iI z = 1) (d : decode cc pc = .ok (.putfield idx, 3)) (hq : pc + 3 = q) (kk : ∀ w', CW base ca ad ni nc nm (up S 26 i z) w' → Fr 0 w w' → J p l e R s m args below meth c Q D base nL k n q lv st w') : J p l e R s m args below meth c Q D base nL k n pc lv (.int (iI z) :: va_rf (pt (ad 2) i) :: st) w := by
  rw [pt_s (ad := ad 2) h0]
  exact j_put X hf (hC.kal h0 h1) (Nat.le_of_ble_eq_true rfl) (nar_z hz) (fit_z hz) (hC.b2 h0 h1) d hq (kk _ (hC.put26 h0 h1 z) (Fr.set (hC.kal h0 h1) rfl))
theorem jp_27 (X : Cx p l s m args meth c y cc nL ret D ca base) {idx : Nat} {i z : Int} (hf : FP y.cls idx 0 7 .int false) (hC : CW base ca ad ni nc nm S w) (h0 : 0 ≤ i) (h1 : i < nc) (d : decode cc pc = .ok (.putfield idx, 3)) (hq : pc + 3 = q) (kk : ∀ w', CW base ca ad ni nc nm (up S 27 i z) w' → Fr 0 w w' → J p l e R s m args below meth c Q D base nL k n q lv st w') : J p l e R s m args below meth c Q D base nL k n pc lv (.int (iI z) :: va_rf (pt (ad 2) i) :: st) w := by
  rw [pt_s (ad := ad 2) h0]
  exact j_put X hf (hC.kal h0 h1) (Nat.le_of_ble_eq_true rfl) rfl rfl (hC.b2 h0 h1) d hq (kk _ (hC.put27 h0 h1 z) (Fr.set (hC.kal h0 h1) rfl))
theorem jp_28 (X : Cx p l s m args meth c y cc nL ret D ca base) {idx : Nat} {i z : Int} (hf : FP y.cls idx 0 8 .int false) (hC : CW base ca ad ni nc nm S w) (h0 : 0 ≤ i) (h1 : i < nc) (d : decode cc pc = .ok (.putfield idx, 3)) (hq : pc + 3 = q) (kk : ∀ w', CW base ca ad ni nc nm (up S 28 i z) w' → Fr 0 w w' → J p l e R s m args below meth c Q D base nL k n q lv st w') : J p l e R s m args below meth c Q D base nL k n pc lv (.int (iI z) :: va_rf (pt (ad 2) i) :: st) w := by
  rw [pt_s (ad := ad 2) h0]
  exact j_put X hf (hC.kal h0 h1) (Nat.le_of_ble_eq_true rfl) rfl rfl (hC.b2 h0 h1) d hq (kk _ (hC.put28 h0 h1 z) (Fr.set (hC.kal h0 h1) rfl))
theorem jp_29 (X : Cx p l s m args meth c y cc nL ret D ca base) {idx : Nat} {i z : Int} (hf : FP y.cls idx 0 9 .int false) (hC : CW base ca ad ni nc nm S w) (h0 : 0 ≤ i) (h1 : i < nc) (d : decode cc pc = .ok (.putfield idx, 3)) (hq : pc + 3 = q) (kk : ∀ w', CW base ca ad ni nc nm (up S 29 i z) w' → Fr 0 w w' → J p l e R s m args below meth c Q D base nL k n q lv st w') : J p l e R s m args below meth c Q D base nL k n pc lv (.int (iI z) :: va_rf (pt (ad 2) i) :: st) w := by
  rw [pt_s (ad := ad 2) h0]
  exact j_put X hf (hC.kal h0 h1) (Nat.le_of_ble_eq_true rfl) rfl rfl (hC.b2 h0 h1) d hq (kk _ (hC.put29 h0 h1 z) (Fr.set (hC.kal h0 h1) rfl))
theorem jp_30 (X : Cx p l s m args meth c y cc nL ret D ca base) {idx : Nat} {i z : Int} (hf : FP y.cls idx 2 0 .int false) (hC : CW base ca ad ni nc nm S w) (h0 : 0 ≤ i) (h1 : i < nm) (d : decode cc pc = .ok (.putfield idx, 3)) (hq : pc + 3 = q) (kk : ∀ w', CW base ca ad ni nc nm (up S 30 i z) w' → Fr 0 w w' → J p l e R s m args below meth c Q D base nL k n q lv st w') : J p l e R s m args below meth c Q D base nL k n pc lv (.int (iI z) :: va_rf (pt (ad 3) i) :: st) w := by
  rw [pt_s (ad := ad 3) h0]
  exact j_put X hf (hC.mea h0 h1) (Nat.le_of_ble_eq_true rfl) rfl rfl (hC.b3 h0 h1) d hq (kk _ (hC.put30 h0 h1 z) (Fr.set (hC.mea h0 h1) rfl))
theorem jp_31 (X : Cx p l s m args meth c y cc nL ret D ca base) {idx : Nat} {i z : Int} (hf : FP y.cls idx 2 1 (.object "Calibratory$Calibration") false) (hC : CW base ca ad ni nc nm S w) (h0 : 0 ≤ i) (h1 : i < nm) (d : decode cc pc = .ok (.putfield idx, 3)) (hq : pc + 3 = q) (kk : ∀ w', CW base ca ad ni nc nm (up S 31 i z) w' → Fr 0 w w' → J p l e R s m args below meth c Q D base nL k n q lv st w') : J p l e R s m args below meth c Q D base nL k n pc lv (va_rf (pt (ad 2) z) :: va_rf (pt (ad 3) i) :: st) w := by
  rw [pt_s (ad := ad 3) h0]
  exact j_put X hf (hC.mea h0 h1) (Nat.le_of_ble_eq_true rfl) (nar_rf _ _) (fit_rf _ _) (hC.b3 h0 h1) d hq (kk _ (hC.put31 h0 h1 z) (Fr.set (hC.mea h0 h1) rfl))
theorem jp_32 (X : Cx p l s m args meth c y cc nL ret D ca base) {idx : Nat} {i z : Int} (hf : FP y.cls idx 2 2 .boolean false) (hC : CW base ca ad ni nc nm S w) (h0 : 0 ≤ i) (h1 : i < nm) (hz : iI z = 0 ∨ iI z = 1) (d : decode cc pc = .ok (.putfield idx, 3)) (hq : pc + 3 = q) (kk : ∀ w', CW base ca ad ni nc nm (up S 32 i z) w' → Fr 0 w w' → J p l e R s m args below meth c Q D base nL k n q lv st w') : J p l e R s m args below meth c Q D base nL k n pc lv (.int (iI z) :: va_rf (pt (ad 3) i) :: st) w := by
  rw [pt_s (ad := ad 3) h0]
  exact j_put X hf (hC.mea h0 h1) (Nat.le_of_ble_eq_true rfl) (nar_z hz) (fit_z hz) (hC.b3 h0 h1) d hq (kk _ (hC.put32 h0 h1 z) (Fr.set (hC.mea h0 h1) rfl))
theorem jp_6 (X : Cx p l s m args meth c y cc nL ret D ca base) {idx : Nat} {z : Int} (hf : FP y.cls idx 3 6 .int false) (hC : CW base ca ad ni nc nm S w) (d : decode cc pc = .ok (.putfield idx, 3)) (hq : pc + 3 = q) (kk : ∀ w', CW base ca ad ni nc nm (up S 6 0 z) w' → Fr 0 w w' → J p l e R s m args below meth c Q D base nL k n q lv st w') : J p l e R s m args below meth c Q D base nL k n pc lv (.int (iI z) :: .ref (ad 0 0) :: st) w :=
  j_put X hf hC.cal (Nat.le_of_ble_eq_true rfl) rfl rfl hC.b0 d hq (kk _ (hC.put6 z) (Fr.set hC.cal rfl))
theorem jp_7 (X : Cx p l s m args meth c y cc nL ret D ca base) {idx : Nat} {z : Int} (hf : FP y.cls idx 3 7 .int false) (hC : CW base ca ad ni nc nm S w) (d : decode cc pc = .ok (.putfield idx, 3)) (hq : pc + 3 = q) (kk : ∀ w', CW base ca ad ni nc nm (up S 7 0 z) w' → Fr 0 w w' → J p l e R s m args below meth c Q D base nL k n q lv st w') : J p l e R s m args below meth c Q D base nL k n pc lv (.int (iI z) :: .ref (ad 0 0) :: st) w :=
  j_put X hf hC.cal (Nat.le_of_ble_eq_true rfl) rfl rfl hC.b0 d hq (kk _ (hC.put7 z) (Fr.set hC.cal rfl))
theorem jp_8 (X : Cx p l s m args meth c y cc nL ret D ca base) {idx : Nat} {z : Int} (hf : FP y.cls idx 3 8 .int false) (hC : CW base ca ad ni nc nm S w) (d : decode cc pc = .ok (.putfield idx, 3)) (hq : pc + 3 = q) (kk : ∀ w', CW base ca ad ni nc nm (up S 8 0 z) w' → Fr 0 w w' → J p l e R s m args below meth c Q D base nL k n q lv st w') : J p l e R s m args below meth c Q D base nL k n pc lv (.int (iI z) :: .ref (ad 0 0) :: st) w :=
  j_put X hf hC.cal (Nat.le_of_ble_eq_true rfl) rfl rfl hC.b0 d hq (kk _ (hC.put8 z) (Fr.set hC.cal rfl))
end JPUT
section ICUP
variable {n nc nm : Int} {S : St}
theorem IC.up11 (h : IC n nc nm S) {i v : Int} (hv : 1 ≤ v ∧ v ≤ 9999) : IC n nc nm (up S 11 i v) := by
  obtain ⟨h1, h2, h3, h4, h5⟩ := h
  refine ⟨h1, ?_, h3, h4, h5⟩
  intro j a b
  by_cases hj : j = i
  · subst hj
    obtain ⟨g0, g1, g2, g3, g4, g5, g6, g7, g8⟩ := h2 j a b
    exact ⟨g0, by rw [up_s]; exact hv, g2, g3, g4, g5, g6, g7, g8⟩
  · have g := h2 j a b
    have e : up S 11 i v 11 j = S 11 j := up_i hj
    unfold RI at g ⊢
    rw [e]
    exact g
theorem IC.up12 (h : IC n nc nm S) {i v : Int} (hv : 0 ≤ v ∧ v ≤ 999) : IC n nc nm (up S 12 i v) := by
  obtain ⟨h1, h2, h3, h4, h5⟩ := h
  refine ⟨h1, ?_, h3, h4, h5⟩
  intro j a b
  by_cases hj : j = i
  · subst hj
    obtain ⟨g0, g1, g2, g3, g4, g5, g6, g7, g8⟩ := h2 j a b
    exact ⟨g0, g1, by rw [up_s]; exact hv, g3, g4, g5, g6, g7, g8⟩
  · have g := h2 j a b
    have e : up S 12 i v 12 j = S 12 j := up_i hj
    unfold RI at g ⊢
    rw [e]
    exact g
theorem IC.up13 (h : IC n nc nm S) {i v : Int} (hv : 1 ≤ v ∧ v ≤ 999) : IC n nc nm (up S 13 i v) := by
  obtain ⟨h1, h2, h3, h4, h5⟩ := h
  refine ⟨h1, ?_, h3, h4, h5⟩
  intro j a b
  by_cases hj : j = i
  · subst hj
    obtain ⟨g0, g1, g2, g3, g4, g5, g6, g7, g8⟩ := h2 j a b
    exact ⟨g0, g1, g2, by rw [up_s]; exact hv, g4, g5, g6, g7, g8⟩
  · have g := h2 j a b
    have e : up S 13 i v 13 j = S 13 j := up_i hj
    unfold RI at g ⊢
    rw [e]
    exact g
theorem IC.up15 (h : IC n nc nm S) {i v : Int} (hv : -1 ≤ v ∧ v < nc) : IC n nc nm (up S 15 i v) := by
  obtain ⟨h1, h2, h3, h4, h5⟩ := h
  refine ⟨h1, ?_, h3, h4, h5⟩
  intro j a b
  by_cases hj : j = i
  · subst hj
    obtain ⟨g0, g1, g2, g3, g4, g5, g6, g7, g8⟩ := h2 j a b
    exact ⟨g0, g1, g2, g3, g4, by rw [up_s]; exact hv, g6, g7, g8⟩
  · have g := h2 j a b
    have e : up S 15 i v 15 j = S 15 j := up_i hj
    unfold RI at g ⊢
    rw [e]
    exact g
theorem IC.up16 (h : IC n nc nm S) {i v : Int} (hv : 0 ≤ v ∧ v ≤ 512) : IC n nc nm (up S 16 i v) := by
  obtain ⟨h1, h2, h3, h4, h5⟩ := h
  refine ⟨h1, ?_, h3, h4, h5⟩
  intro j a b
  by_cases hj : j = i
  · subst hj
    obtain ⟨g0, g1, g2, g3, g4, g5, g6, g7, g8⟩ := h2 j a b
    exact ⟨g0, g1, g2, g3, g4, g5, by rw [up_s]; exact hv, g7, g8⟩
  · have g := h2 j a b
    have e : up S 16 i v 16 j = S 16 j := up_i hj
    unfold RI at g ⊢
    rw [e]
    exact g
theorem IC.up17 (h : IC n nc nm S) {i v : Int} (hv : -900000000000 ≤ v ∧ v ≤ 900000000000) : IC n nc nm (up S 17 i v) := by
  obtain ⟨h1, h2, h3, h4, h5⟩ := h
  refine ⟨h1, ?_, h3, h4, h5⟩
  intro j a b
  by_cases hj : j = i
  · subst hj
    obtain ⟨g0, g1, g2, g3, g4, g5, g6, g7, g8⟩ := h2 j a b
    exact ⟨g0, g1, g2, g3, g4, g5, g6, by rw [up_s]; exact hv, g8⟩
  · have g := h2 j a b
    have e : up S 17 i v 17 j = S 17 j := up_i hj
    unfold RI at g ⊢
    rw [e]
    exact g
theorem IC.up18 (h : IC n nc nm S) {i v : Int} (hv : 0 ≤ v ∧ v ≤ 2200000000000) : IC n nc nm (up S 18 i v) := by
  obtain ⟨h1, h2, h3, h4, h5⟩ := h
  refine ⟨h1, ?_, h3, h4, h5⟩
  intro j a b
  by_cases hj : j = i
  · subst hj
    obtain ⟨g0, g1, g2, g3, g4, g5, g6, g7, g8⟩ := h2 j a b
    exact ⟨g0, g1, g2, g3, g4, g5, g6, g7, by rw [up_s]; exact hv⟩
  · have g := h2 j a b
    have e : up S 18 i v 18 j = S 18 j := up_i hj
    unfold RI at g ⊢
    rw [e]
    exact g
theorem IC.up25 (h : IC n nc nm S) {i v : Int} (hv : 0 ≤ v ∧ v ≤ 1) : IC n nc nm (up S 25 i v) := by
  obtain ⟨h1, h2, h3, h4, h5⟩ := h
  refine ⟨h1, h2, ?_, h4, h5⟩
  intro j a b
  by_cases hj : j = i
  · subst hj
    obtain ⟨g0, g1, g2, g3, g4, g5, g6, g7, g8, g9⟩ := h3 j a b
    exact ⟨g0, g1, g2, g3, g4, by rw [up_s]; exact hv, g6, g7, g8, g9⟩
  · have g := h3 j a b
    have e : up S 25 i v 25 j = S 25 j := up_i hj
    unfold RK at g ⊢
    rw [e]
    exact g
theorem IC.up26 (h : IC n nc nm S) {i v : Int} (hv : 0 ≤ v ∧ v ≤ 1) : IC n nc nm (up S 26 i v) := by
  obtain ⟨h1, h2, h3, h4, h5⟩ := h
  refine ⟨h1, h2, ?_, h4, h5⟩
  intro j a b
  by_cases hj : j = i
  · subst hj
    obtain ⟨g0, g1, g2, g3, g4, g5, g6, g7, g8, g9⟩ := h3 j a b
    exact ⟨g0, g1, g2, g3, g4, g5, by rw [up_s]; exact hv, g7, g8, g9⟩
  · have g := h3 j a b
    have e : up S 26 i v 26 j = S 26 j := up_i hj
    unfold RK at g ⊢
    rw [e]
    exact g
theorem IC.up27 (h : IC n nc nm S) {i v : Int} (hv : 0 ≤ v ∧ v ≤ 1000000) : IC n nc nm (up S 27 i v) := by
  obtain ⟨h1, h2, h3, h4, h5⟩ := h
  refine ⟨h1, h2, ?_, h4, h5⟩
  intro j a b
  by_cases hj : j = i
  · subst hj
    obtain ⟨g0, g1, g2, g3, g4, g5, g6, g7, g8, g9⟩ := h3 j a b
    exact ⟨g0, g1, g2, g3, g4, g5, g6, by rw [up_s]; exact hv, g8, g9⟩
  · have g := h3 j a b
    have e : up S 27 i v 27 j = S 27 j := up_i hj
    unfold RK at g ⊢
    rw [e]
    exact g
theorem IC.up28 (h : IC n nc nm S) {i v : Int} (hv : 0 ≤ v ∧ v ≤ 511488) : IC n nc nm (up S 28 i v) := by
  obtain ⟨h1, h2, h3, h4, h5⟩ := h
  refine ⟨h1, h2, ?_, h4, h5⟩
  intro j a b
  by_cases hj : j = i
  · subst hj
    obtain ⟨g0, g1, g2, g3, g4, g5, g6, g7, g8, g9⟩ := h3 j a b
    exact ⟨g0, g1, g2, g3, g4, g5, g6, g7, by rw [up_s]; exact hv, g9⟩
  · have g := h3 j a b
    have e : up S 28 i v 28 j = S 28 j := up_i hj
    unfold RK at g ⊢
    rw [e]
    exact g
theorem IC.up29 (h : IC n nc nm S) {i v : Int} (hv : -199998 ≤ v ∧ v ≤ 199998) : IC n nc nm (up S 29 i v) := by
  obtain ⟨h1, h2, h3, h4, h5⟩ := h
  refine ⟨h1, h2, ?_, h4, h5⟩
  intro j a b
  by_cases hj : j = i
  · subst hj
    obtain ⟨g0, g1, g2, g3, g4, g5, g6, g7, g8, g9⟩ := h3 j a b
    exact ⟨g0, g1, g2, g3, g4, g5, g6, g7, g8, by rw [up_s]; exact hv⟩
  · have g := h3 j a b
    have e : up S 29 i v 29 j = S 29 j := up_i hj
    unfold RK at g ⊢
    rw [e]
    exact g
theorem IC.up32 (h : IC n nc nm S) {i v : Int} (hv : 0 ≤ v ∧ v ≤ 1) : IC n nc nm (up S 32 i v) := by
  obtain ⟨h1, h2, h3, h4, h5⟩ := h
  refine ⟨h1, h2, h3, ?_, h5⟩
  intro j a b
  by_cases hj : j = i
  · subst hj
    obtain ⟨g0, g1, g2⟩ := h4 j a b
    exact ⟨g0, g1, by rw [up_s]; exact hv⟩
  · have g := h4 j a b
    have e : up S 32 i v 32 j = S 32 j := up_i hj
    unfold RM at g ⊢
    rw [e]
    exact g
theorem IC.up6 (h : IC n nc nm S) {v : Int} (hv : 0 ≤ v ∧ v ≤ 200) : IC n nc nm (up S 6 0 v) := by
  obtain ⟨h1, h2, h3, h4, h5⟩ := h
  exact ⟨⟨h1.1, h1.2.1, h1.2.2.1, h1.2.2.2.1, h1.2.2.2.2.1, h1.2.2.2.2.2.1, by rw [up_s]; exact hv, h1.2.2.2.2.2.2.2.1, h1.2.2.2.2.2.2.2.2⟩, h2, h3, h4, h5⟩
theorem IC.up7 (h : IC n nc nm S) {v : Int} (hv : 0 ≤ v ∧ v ≤ 511488) : IC n nc nm (up S 7 0 v) := by
  obtain ⟨h1, h2, h3, h4, h5⟩ := h
  exact ⟨⟨h1.1, h1.2.1, h1.2.2.1, h1.2.2.2.1, h1.2.2.2.2.1, h1.2.2.2.2.2.1, h1.2.2.2.2.2.2.1, by rw [up_s]; exact hv, h1.2.2.2.2.2.2.2.2⟩, h2, h3, h4, h5⟩
theorem IC.up8 (h : IC n nc nm S) {v : Int} (hv : 0 ≤ v ∧ v ≤ 512) : IC n nc nm (up S 8 0 v) := by
  obtain ⟨h1, h2, h3, h4, h5⟩ := h
  exact ⟨⟨h1.1, h1.2.1, h1.2.2.1, h1.2.2.2.1, h1.2.2.2.2.1, h1.2.2.2.2.2.1, h1.2.2.2.2.2.2.1, h1.2.2.2.2.2.2.2.1, by rw [up_s]; exact hv⟩, h2, h3, h4, h5⟩
end ICUP
def adn (ad : Nat → Int → Nat) (K : Nat) (c : Int) (a : Nat) : Nat → Int → Nat := fun k j => if k = K then (if j = c then a else ad k j) else ad k j
theorem adn_n {ad : Nat → Int → Nat} {K k : Nat} {c j : Int} {a : Nat} (h : j ≠ c) : adn ad K c a k j = ad k j := by simp [adn, h]
theorem adn_s {ad : Nat → Int → Nat} {K : Nat} {c : Int} {a : Nat} : adn ad K c a K c = a := by simp [adn]
theorem pt_adn {ad : Nat → Int → Nat} {K k : Nat} {c v : Int} {a : Nat} (h : v ≠ c) : pt (adn ad K c a k) v = pt (ad k) v := by
  unfold pt
  split
  · rfl
  · rw [adn_n h]
def nwI (S : St) (n : Int) (f : Nat → Int) : St := fun g j => if j = n ∧ 10 ≤ g ∧ g ≤ 18 then f g else S g j
def nwK (S : St) (n : Int) (f : Nat → Int) : St := fun g j => if j = n ∧ 20 ≤ g ∧ g ≤ 29 then f g else S g j
def nwM (S : St) (n : Int) (f : Nat → Int) : St := fun g j => if j = n ∧ 30 ≤ g ∧ g ≤ 32 then f g else S g j
section CWNEW
variable {base : Nat} {ca : Nat → ClassId} {ad : Nat → Int → Nat} {n nc nm : Int} {S : St} {w : Wd}
theorem CW.newI (h : CW base ca ad n nc nm S w) (hI : IC n nc nm S) {a : Nat} (ha : w a = none) (hb : base ≤ a) (f : Nat → Int) : CW base ca (adn ad 1 n a) (n + 1) (nc) (nm) (nwI S n f) (wu w a (cIns (adn ad 1 n a) (nwI S n f) n)) := by
  have ne : ∀ (q : Nat) (e : va_E), w q = some e → q ≠ a := fun q e hq z => by rw [z, ha] at hq; cases hq
  obtain ⟨⟨hn, hnc, hnm, e3, e4, e5, -⟩, -⟩ := id hI
  have hS : ∀ (g : Nat) (j : Int), j ≠ n → (nwI S n f) g j = S g j := fun g j hj => by simp [nwI, hj]
  have hS0 : ∀ (g : Nat), g ≤ 9 → (nwI S n f) g 0 = S g 0 := fun g hg => by unfold nwI; rw [if_neg (by omega)]
  refine ⟨⟨?_, ?_, ?_, ?_⟩, h.2.1, ?_, ?_, ?_, ?_, ?_, ?_⟩
  · show wu w a _ (ad 0 0) = _
    rw [wu_n (ne _ _ h.cal), h.cal]
    show _ = some (cCal (adn ad 1 n a) (nwI S n f) 0)
    simp only [cCal, hS0 3 (by decide), hS0 4 (by decide), hS0 5 (by decide), hS0 6 (by decide), hS0 7 (by decide), hS0 8 (by decide)]
    rfl
  · show wu w a _ (ad 0 1) = _
    rw [wu_n (ne _ _ h.told), h.told, hS0 3 (by decide), rw_cong (fun i h1 h2 => adn_n (by omega))]
  · show wu w a _ (ad 0 2) = _
    rw [wu_n (ne _ _ h.made), h.made, hS0 4 (by decide)]
    rfl
  · show wu w a _ (ad 0 3) = _
    rw [wu_n (ne _ _ h.log), h.log, hS0 5 (by decide)]
    rfl
  · intro j h0 h1
    by_cases hj : j = n
    · subst hj
      rw [adn_s]
      exact ⟨hb, wu_s⟩
    · have h2 : j < n := by omega
      rw [adn_n hj, wu_n (ne _ _ (h.ins h0 h2)), h.ins h0 h2]
      refine ⟨h.b1 h0 h2, ?_⟩
      have gR := hI.ins h0 h2
      unfold RI at gR
      simp only [cIns, hS _ j hj]
      rw [pt_adn (show S 14 j ≠ n by omega)]
      rfl
  · intro j h0 h1
    show base ≤ ad 2 j ∧ wu w a _ (ad 2 j) = _
    rw [wu_n (ne _ _ (h.kal h0 h1)), h.kal h0 h1]
    refine ⟨h.b2 h0 h1, ?_⟩
    have gR := hI.kal h0 h1
    unfold RK at gR
    have hT : ∀ g : Nat, 20 ≤ g → g ≤ 29 → (nwI S n f) g j = S g j := fun g h8 h9 => by unfold nwI; rw [if_neg (by omega)]
    simp only [cKal, hT 20 (by decide) (by decide), hT 21 (by decide) (by decide), hT 22 (by decide) (by decide), hT 23 (by decide) (by decide), hT 24 (by decide) (by decide), hT 25 (by decide) (by decide), hT 26 (by decide) (by decide), hT 27 (by decide) (by decide), hT 28 (by decide) (by decide), hT 29 (by decide) (by decide)]
    rfl
  · intro j h0 h1
    show base ≤ ad 3 j ∧ wu w a _ (ad 3 j) = _
    rw [wu_n (ne _ _ (h.mea h0 h1)), h.mea h0 h1]
    refine ⟨h.b3 h0 h1, ?_⟩
    have gR := hI.mea h0 h1
    unfold RM at gR
    have hT : ∀ g : Nat, 30 ≤ g → g ≤ 32 → (nwI S n f) g j = S g j := fun g h8 h9 => by unfold nwI; rw [if_neg (by omega)]
    simp only [cMea, hT 30 (by decide) (by decide), hT 31 (by decide) (by decide), hT 32 (by decide) (by decide)]
    rfl
  · intro i j a0 a1 b0 b1 he
    by_cases hi : i = n
    · by_cases hj : j = n
      · rw [hi, hj]
      · rw [hi, adn_s, adn_n hj] at he
        exact absurd he.symm (ne _ _ (h.ins b0 (by omega)))
    · by_cases hj : j = n
      · rw [hj, adn_s, adn_n hi] at he
        exact absurd he (ne _ _ (h.ins a0 (by omega)))
      · rw [adn_n hi, adn_n hj] at he
        exact h.inj1 a0 (by omega) b0 (by omega) he
  · intro i j a0 a1 b0 b1 he
    exact h.inj2 a0 a1 b0 b1 he
  · intro i j a0 a1 b0 b1 he
    exact h.inj3 a0 a1 b0 b1 he
theorem CW.newK (h : CW base ca ad n nc nm S w) (hI : IC n nc nm S) {a : Nat} (ha : w a = none) (hb : base ≤ a) (f : Nat → Int) : CW base ca (adn ad 2 nc a) (n) (nc + 1) (nm) (nwK S nc f) (wu w a (cKal (adn ad 2 nc a) (nwK S nc f) nc)) := by
  have ne : ∀ (q : Nat) (e : va_E), w q = some e → q ≠ a := fun q e hq z => by rw [z, ha] at hq; cases hq
  obtain ⟨⟨hn, hnc, hnm, e3, e4, e5, -⟩, -⟩ := id hI
  have hS : ∀ (g : Nat) (j : Int), j ≠ nc → (nwK S nc f) g j = S g j := fun g j hj => by simp [nwK, hj]
  have hS0 : ∀ (g : Nat), g ≤ 9 → (nwK S nc f) g 0 = S g 0 := fun g hg => by unfold nwK; rw [if_neg (by omega)]
  refine ⟨⟨?_, ?_, ?_, ?_⟩, h.2.1, ?_, ?_, ?_, ?_, ?_, ?_⟩
  · show wu w a _ (ad 0 0) = _
    rw [wu_n (ne _ _ h.cal), h.cal]
    show _ = some (cCal (adn ad 2 nc a) (nwK S nc f) 0)
    simp only [cCal, hS0 3 (by decide), hS0 4 (by decide), hS0 5 (by decide), hS0 6 (by decide), hS0 7 (by decide), hS0 8 (by decide)]
    rfl
  · show wu w a _ (ad 0 1) = _
    rw [wu_n (ne _ _ h.told), h.told, hS0 3 (by decide)]
    rfl
  · show wu w a _ (ad 0 2) = _
    rw [wu_n (ne _ _ h.made), h.made, hS0 4 (by decide)]
    rfl
  · show wu w a _ (ad 0 3) = _
    rw [wu_n (ne _ _ h.log), h.log, hS0 5 (by decide), rw_cong (fun i h1 h2 => adn_n (by omega))]
  · intro j h0 h1
    show base ≤ ad 1 j ∧ wu w a _ (ad 1 j) = _
    rw [wu_n (ne _ _ (h.ins h0 h1)), h.ins h0 h1]
    refine ⟨h.b1 h0 h1, ?_⟩
    have gR := hI.ins h0 h1
    unfold RI at gR
    have hT : ∀ g : Nat, 10 ≤ g → g ≤ 18 → (nwK S nc f) g j = S g j := fun g h8 h9 => by unfold nwK; rw [if_neg (by omega)]
    simp only [cIns, hT 10 (by decide) (by decide), hT 11 (by decide) (by decide), hT 12 (by decide) (by decide), hT 13 (by decide) (by decide), hT 14 (by decide) (by decide), hT 15 (by decide) (by decide), hT 16 (by decide) (by decide), hT 17 (by decide) (by decide), hT 18 (by decide) (by decide)]
    rw [show pt (adn ad 2 nc a 2) (S 15 j) = pt (ad 2) (S 15 j) from pt_adn (by omega)]
    rfl
  · intro j h0 h1
    by_cases hj : j = nc
    · subst hj
      rw [adn_s]
      exact ⟨hb, wu_s⟩
    · have h2 : j < nc := by omega
      rw [adn_n hj, wu_n (ne _ _ (h.kal h0 h2)), h.kal h0 h2]
      refine ⟨h.b2 h0 h2, ?_⟩
      have gR := hI.kal h0 h2
      unfold RK at gR
      simp only [cKal, hS _ j hj]
      rw [pt_adn (show S 23 j ≠ nc by omega), pt_adn (show S 24 j ≠ nc by omega)]
  · intro j h0 h1
    show base ≤ ad 3 j ∧ wu w a _ (ad 3 j) = _
    rw [wu_n (ne _ _ (h.mea h0 h1)), h.mea h0 h1]
    refine ⟨h.b3 h0 h1, ?_⟩
    have gR := hI.mea h0 h1
    unfold RM at gR
    have hT : ∀ g : Nat, 30 ≤ g → g ≤ 32 → (nwK S nc f) g j = S g j := fun g h8 h9 => by unfold nwK; rw [if_neg (by omega)]
    simp only [cMea, hT 30 (by decide) (by decide), hT 31 (by decide) (by decide), hT 32 (by decide) (by decide)]
    rw [show pt (adn ad 2 nc a 2) (S 31 j) = pt (ad 2) (S 31 j) from pt_adn (by omega)]
  · intro i j a0 a1 b0 b1 he
    exact h.inj1 a0 a1 b0 b1 he
  · intro i j a0 a1 b0 b1 he
    by_cases hi : i = nc
    · by_cases hj : j = nc
      · rw [hi, hj]
      · rw [hi, adn_s, adn_n hj] at he
        exact absurd he.symm (ne _ _ (h.kal b0 (by omega)))
    · by_cases hj : j = nc
      · rw [hj, adn_s, adn_n hi] at he
        exact absurd he (ne _ _ (h.kal a0 (by omega)))
      · rw [adn_n hi, adn_n hj] at he
        exact h.inj2 a0 (by omega) b0 (by omega) he
  · intro i j a0 a1 b0 b1 he
    exact h.inj3 a0 a1 b0 b1 he
theorem CW.newM (h : CW base ca ad n nc nm S w) (hI : IC n nc nm S) {a : Nat} (ha : w a = none) (hb : base ≤ a) (f : Nat → Int) : CW base ca (adn ad 3 nm a) (n) (nc) (nm + 1) (nwM S nm f) (wu w a (cMea (adn ad 3 nm a) (nwM S nm f) nm)) := by
  have ne : ∀ (q : Nat) (e : va_E), w q = some e → q ≠ a := fun q e hq z => by rw [z, ha] at hq; cases hq
  obtain ⟨⟨hn, hnc, hnm, e3, e4, e5, -⟩, -⟩ := id hI
  have hS : ∀ (g : Nat) (j : Int), j ≠ nm → (nwM S nm f) g j = S g j := fun g j hj => by simp [nwM, hj]
  have hS0 : ∀ (g : Nat), g ≤ 9 → (nwM S nm f) g 0 = S g 0 := fun g hg => by unfold nwM; rw [if_neg (by omega)]
  refine ⟨⟨?_, ?_, ?_, ?_⟩, h.2.1, ?_, ?_, ?_, ?_, ?_, ?_⟩
  · show wu w a _ (ad 0 0) = _
    rw [wu_n (ne _ _ h.cal), h.cal]
    show _ = some (cCal (adn ad 3 nm a) (nwM S nm f) 0)
    simp only [cCal, hS0 3 (by decide), hS0 4 (by decide), hS0 5 (by decide), hS0 6 (by decide), hS0 7 (by decide), hS0 8 (by decide)]
    rfl
  · show wu w a _ (ad 0 1) = _
    rw [wu_n (ne _ _ h.told), h.told, hS0 3 (by decide)]
    rfl
  · show wu w a _ (ad 0 2) = _
    rw [wu_n (ne _ _ h.made), h.made, hS0 4 (by decide), rw_cong (fun i h1 h2 => adn_n (by omega))]
  · show wu w a _ (ad 0 3) = _
    rw [wu_n (ne _ _ h.log), h.log, hS0 5 (by decide)]
    rfl
  · intro j h0 h1
    show base ≤ ad 1 j ∧ wu w a _ (ad 1 j) = _
    rw [wu_n (ne _ _ (h.ins h0 h1)), h.ins h0 h1]
    refine ⟨h.b1 h0 h1, ?_⟩
    have gR := hI.ins h0 h1
    unfold RI at gR
    have hT : ∀ g : Nat, 10 ≤ g → g ≤ 18 → (nwM S nm f) g j = S g j := fun g h8 h9 => by unfold nwM; rw [if_neg (by omega)]
    simp only [cIns, hT 10 (by decide) (by decide), hT 11 (by decide) (by decide), hT 12 (by decide) (by decide), hT 13 (by decide) (by decide), hT 14 (by decide) (by decide), hT 15 (by decide) (by decide), hT 16 (by decide) (by decide), hT 17 (by decide) (by decide), hT 18 (by decide) (by decide)]
    rfl
  · intro j h0 h1
    show base ≤ ad 2 j ∧ wu w a _ (ad 2 j) = _
    rw [wu_n (ne _ _ (h.kal h0 h1)), h.kal h0 h1]
    refine ⟨h.b2 h0 h1, ?_⟩
    have gR := hI.kal h0 h1
    unfold RK at gR
    have hT : ∀ g : Nat, 20 ≤ g → g ≤ 29 → (nwM S nm f) g j = S g j := fun g h8 h9 => by unfold nwM; rw [if_neg (by omega)]
    simp only [cKal, hT 20 (by decide) (by decide), hT 21 (by decide) (by decide), hT 22 (by decide) (by decide), hT 23 (by decide) (by decide), hT 24 (by decide) (by decide), hT 25 (by decide) (by decide), hT 26 (by decide) (by decide), hT 27 (by decide) (by decide), hT 28 (by decide) (by decide), hT 29 (by decide) (by decide)]
    rfl
  · intro j h0 h1
    by_cases hj : j = nm
    · subst hj
      rw [adn_s]
      exact ⟨hb, wu_s⟩
    · have h2 : j < nm := by omega
      rw [adn_n hj, wu_n (ne _ _ (h.mea h0 h2)), h.mea h0 h2]
      refine ⟨h.b3 h0 h2, ?_⟩
      have gR := hI.mea h0 h2
      unfold RM at gR
      simp only [cMea, hS _ j hj]
      rfl
  · intro i j a0 a1 b0 b1 he
    exact h.inj1 a0 a1 b0 b1 he
  · intro i j a0 a1 b0 b1 he
    exact h.inj2 a0 a1 b0 b1 he
  · intro i j a0 a1 b0 b1 he
    by_cases hi : i = nm
    · by_cases hj : j = nm
      · rw [hi, hj]
      · rw [hi, adn_s, adn_n hj] at he
        exact absurd he.symm (ne _ _ (h.mea b0 (by omega)))
    · by_cases hj : j = nm
      · rw [hj, adn_s, adn_n hi] at he
        exact absurd he (ne _ _ (h.mea a0 (by omega)))
      · rw [adn_n hi, adn_n hj] at he
        exact h.inj3 a0 (by omega) b0 (by omega) he
theorem CW.add3 (h : CW base ca ad n nc nm S w) (h0 : 0 ≤ S 3 0) : CW base ca ad n nc nm (up S 3 0 (S 3 0 + 1)) (wu (wu w (ad 0 1) (eRow (ca 2) 12 (va_up (rw_ (ad 1) (S 3 0)) (S 3 0).toNat (some (ad 1 (S 3 0)))))) (ad 0 0) (.inr (3, (match cCal ad S 0 with | .inr (_, l) => l | _ => []).set 3 (.int (iI (S 3 0 + 1)))))) := by
  have ne1 : ∀ (q : Nat) (e : va_E), w q = some e → (∀ f, e ≠ eRow (ca 2) 12 f) → q ≠ ad 0 1 := fun q e hq hne z => by rw [z, h.told] at hq; exact hne _ (Option.some.inj hq).symm
  have ne0 : ∀ (q : Nat) (e : va_E), w q = some e → (∀ l, e ≠ .inr (3, l)) → q ≠ ad 0 0 := fun q e hq hne z => by rw [z, h.cal] at hq; exact hne _ (Option.some.inj hq).symm
  refine ⟨⟨?_, ?_, ?_, ?_⟩, h.2.1, fun i a b => ⟨h.b1 a b, ?_⟩, fun i a b => ⟨h.b2 a b, ?_⟩, fun i a b => ⟨h.b3 a b, ?_⟩, h.2.2.2.2.2⟩
  · rw [wu_s]
    simp [cCal, up]
  · rw [wu_n (ne0 _ _ h.told (fun l z => by cases z)), wu_s, up_s, rw_add h0]
  · rw [wu_n (ne0 _ _ h.made (fun l z => by cases z)), wu_n (ne1 _ _ h.made (fun f z => by simp at z)), h.made]
    rfl
  · rw [wu_n (ne0 _ _ h.log (fun l z => by cases z)), wu_n (ne1 _ _ h.log (fun f z => by simp at z)), h.log]
    rfl
  · rw [wu_n (ne0 _ _ (h.ins a b) (fun l z => by cases z)), wu_n (ne1 _ _ (h.ins a b) (fun f z => by cases z)), h.ins a b]
    rfl
  · rw [wu_n (ne0 _ _ (h.kal a b) (fun l z => by cases z)), wu_n (ne1 _ _ (h.kal a b) (fun f z => by cases z)), h.kal a b]
    rfl
  · rw [wu_n (ne0 _ _ (h.mea a b) (fun l z => by cases z)), wu_n (ne1 _ _ (h.mea a b) (fun f z => by cases z)), h.mea a b]
    rfl
theorem CW.add4 (h : CW base ca ad n nc nm S w) (h0 : 0 ≤ S 4 0) : CW base ca ad n nc nm (up S 4 0 (S 4 0 + 1)) (wu (wu w (ad 0 2) (eRow (ca 3) 200 (va_up (rw_ (ad 3) (S 4 0)) (S 4 0).toNat (some (ad 3 (S 4 0)))))) (ad 0 0) (.inr (3, (match cCal ad S 0 with | .inr (_, l) => l | _ => []).set 4 (.int (iI (S 4 0 + 1)))))) := by
  have ne1 : ∀ (q : Nat) (e : va_E), w q = some e → (∀ f, e ≠ eRow (ca 3) 200 f) → q ≠ ad 0 2 := fun q e hq hne z => by rw [z, h.made] at hq; exact hne _ (Option.some.inj hq).symm
  have ne0 : ∀ (q : Nat) (e : va_E), w q = some e → (∀ l, e ≠ .inr (3, l)) → q ≠ ad 0 0 := fun q e hq hne z => by rw [z, h.cal] at hq; exact hne _ (Option.some.inj hq).symm
  refine ⟨⟨?_, ?_, ?_, ?_⟩, h.2.1, fun i a b => ⟨h.b1 a b, ?_⟩, fun i a b => ⟨h.b2 a b, ?_⟩, fun i a b => ⟨h.b3 a b, ?_⟩, h.2.2.2.2.2⟩
  · rw [wu_s]
    simp [cCal, up]
  · rw [wu_n (ne0 _ _ h.told (fun l z => by cases z)), wu_n (ne1 _ _ h.told (fun f z => by simp at z)), h.told]
    rfl
  · rw [wu_n (ne0 _ _ h.made (fun l z => by cases z)), wu_s, up_s, rw_add h0]
  · rw [wu_n (ne0 _ _ h.log (fun l z => by cases z)), wu_n (ne1 _ _ h.log (fun f z => by simp at z)), h.log]
    rfl
  · rw [wu_n (ne0 _ _ (h.ins a b) (fun l z => by cases z)), wu_n (ne1 _ _ (h.ins a b) (fun f z => by cases z)), h.ins a b]
    rfl
  · rw [wu_n (ne0 _ _ (h.kal a b) (fun l z => by cases z)), wu_n (ne1 _ _ (h.kal a b) (fun f z => by cases z)), h.kal a b]
    rfl
  · rw [wu_n (ne0 _ _ (h.mea a b) (fun l z => by cases z)), wu_n (ne1 _ _ (h.mea a b) (fun f z => by cases z)), h.mea a b]
    rfl
theorem CW.add5 (h : CW base ca ad n nc nm S w) (h0 : 0 ≤ S 5 0) : CW base ca ad n nc nm (up S 5 0 (S 5 0 + 1)) (wu (wu w (ad 0 3) (eRow (ca 4) 512 (va_up (rw_ (ad 2) (S 5 0)) (S 5 0).toNat (some (ad 2 (S 5 0)))))) (ad 0 0) (.inr (3, (match cCal ad S 0 with | .inr (_, l) => l | _ => []).set 5 (.int (iI (S 5 0 + 1)))))) := by
  have ne1 : ∀ (q : Nat) (e : va_E), w q = some e → (∀ f, e ≠ eRow (ca 4) 512 f) → q ≠ ad 0 3 := fun q e hq hne z => by rw [z, h.log] at hq; exact hne _ (Option.some.inj hq).symm
  have ne0 : ∀ (q : Nat) (e : va_E), w q = some e → (∀ l, e ≠ .inr (3, l)) → q ≠ ad 0 0 := fun q e hq hne z => by rw [z, h.cal] at hq; exact hne _ (Option.some.inj hq).symm
  refine ⟨⟨?_, ?_, ?_, ?_⟩, h.2.1, fun i a b => ⟨h.b1 a b, ?_⟩, fun i a b => ⟨h.b2 a b, ?_⟩, fun i a b => ⟨h.b3 a b, ?_⟩, h.2.2.2.2.2⟩
  · rw [wu_s]
    simp [cCal, up]
  · rw [wu_n (ne0 _ _ h.told (fun l z => by cases z)), wu_n (ne1 _ _ h.told (fun f z => by simp at z)), h.told]
    rfl
  · rw [wu_n (ne0 _ _ h.made (fun l z => by cases z)), wu_n (ne1 _ _ h.made (fun f z => by simp at z)), h.made]
    rfl
  · rw [wu_n (ne0 _ _ h.log (fun l z => by cases z)), wu_s, up_s, rw_add h0]
  · rw [wu_n (ne0 _ _ (h.ins a b) (fun l z => by cases z)), wu_n (ne1 _ _ (h.ins a b) (fun f z => by cases z)), h.ins a b]
    rfl
  · rw [wu_n (ne0 _ _ (h.kal a b) (fun l z => by cases z)), wu_n (ne1 _ _ (h.kal a b) (fun f z => by cases z)), h.kal a b]
    rfl
  · rw [wu_n (ne0 _ _ (h.mea a b) (fun l z => by cases z)), wu_n (ne1 _ _ (h.mea a b) (fun f z => by cases z)), h.mea a b]
    rfl
theorem ja_3 {p : Program} {l : Launch} {e : Env} {R : Room} {s : State} {m : MethodId} {args : Array Value} {below : List Frame} {meth : Method} {c : Code} {Q : State → Prop} {D : va_G} {nL k n9 pc q : Nat} {lv : List (Nat × Value)} {st : List Value} {y : MethodName} {cc : ByteArray} {ret : Option FieldType} (X : Cx p l s m args meth c y cc nL ret D ca base) (hC : CW base ca ad n nc nm S w) {z : Int} {a : Nat} (hz : S 3 0 = z) (h0 : 0 ≤ z) (h1 : z < n) (h2 : z < 12) (ha : a = ad 1 z) (d : decode cc pc = .ok (.aastore, 1)) (hq : pc + 1 = q) (kk : J p l e R s m args below meth c Q D base nL k n9 q lv st (wu w (ad 0 1) (eRow (ca 2) 12 (va_up (rw_ (ad 1) z) z.toNat (some (ad 1 z)))))) : J p l e R s m args below meth c Q D base nL k n9 pc lv (.ref a :: .int (iI z) :: .ref (ad 0 1) :: st) w := by
  subst ha
  subst hz
  exact j_aast X (t := 2) (r := (RX1, TX1, 9)) rfl hC.told (hC.ins h0 h1) rfl ⟨h0, by omega⟩ (by decide) hC.2.1.2.1 d hq kk
theorem jb_3 {p : Program} {l : Launch} {e : Env} {R : Room} {s : State} {m : MethodId} {args : Array Value} {below : List Frame} {meth : Method} {c : Code} {Q : State → Prop} {D : va_G} {nL k n9 pc q : Nat} {lv : List (Nat × Value)} {st : List Value} {y : MethodName} {cc : ByteArray} {ret : Option FieldType} (X : Cx p l s m args meth c y cc nL ret D ca base) {idx : Nat} (hf : FP y.cls idx 3 3 .int false) (hC : CW base ca ad n nc nm S w) {z : Int} (hz : S 3 0 = z) (h0 : 0 ≤ z) (d : decode cc pc = .ok (.putfield idx, 3)) (hq : pc + 3 = q) (kk : ∀ w', CW base ca ad n nc nm (up S 3 0 (z + 1)) w' → Fr 0 w w' → J p l e R s m args below meth c Q D base nL k n9 q lv st w') : J p l e R s m args below meth c Q D base nL k n9 pc lv (.int (iI (z + 1)) :: .ref (ad 0 0) :: st) (wu w (ad 0 1) (eRow (ca 2) 12 (va_up (rw_ (ad 1) z) z.toNat (some (ad 1 z))))) := by
  subst hz
  have hnt : ad 0 0 ≠ ad 0 1 := ne_of_cell hC.cal hC.told (fun z => by cases z)
  exact j_put X hf ((wu_n hnt).trans hC.cal) (Nat.le_of_ble_eq_true rfl) rfl rfl hC.b0 d hq (kk _ (CW.add3 hC h0) ((Fr.set hC.told rfl).tr (Fr.set ((wu_n hnt).trans hC.cal) rfl)))
theorem ja_4 {p : Program} {l : Launch} {e : Env} {R : Room} {s : State} {m : MethodId} {args : Array Value} {below : List Frame} {meth : Method} {c : Code} {Q : State → Prop} {D : va_G} {nL k n9 pc q : Nat} {lv : List (Nat × Value)} {st : List Value} {y : MethodName} {cc : ByteArray} {ret : Option FieldType} (X : Cx p l s m args meth c y cc nL ret D ca base) (hC : CW base ca ad n nc nm S w) {z : Int} {a : Nat} (hz : S 4 0 = z) (h0 : 0 ≤ z) (h1 : z < nm) (h2 : z < 200) (ha : a = ad 3 z) (d : decode cc pc = .ok (.aastore, 1)) (hq : pc + 1 = q) (kk : J p l e R s m args below meth c Q D base nL k n9 q lv st (wu w (ad 0 2) (eRow (ca 3) 200 (va_up (rw_ (ad 3) z) z.toNat (some (ad 3 z)))))) : J p l e R s m args below meth c Q D base nL k n9 pc lv (.ref a :: .int (iI z) :: .ref (ad 0 2) :: st) w := by
  subst ha
  subst hz
  exact j_aast X (t := 3) (r := (RX2, TX2, 3)) rfl hC.made (hC.mea h0 h1) rfl ⟨h0, by omega⟩ (by decide) hC.2.1.2.2.1 d hq kk
theorem jb_4 {p : Program} {l : Launch} {e : Env} {R : Room} {s : State} {m : MethodId} {args : Array Value} {below : List Frame} {meth : Method} {c : Code} {Q : State → Prop} {D : va_G} {nL k n9 pc q : Nat} {lv : List (Nat × Value)} {st : List Value} {y : MethodName} {cc : ByteArray} {ret : Option FieldType} (X : Cx p l s m args meth c y cc nL ret D ca base) {idx : Nat} (hf : FP y.cls idx 3 4 .int false) (hC : CW base ca ad n nc nm S w) {z : Int} (hz : S 4 0 = z) (h0 : 0 ≤ z) (d : decode cc pc = .ok (.putfield idx, 3)) (hq : pc + 3 = q) (kk : ∀ w', CW base ca ad n nc nm (up S 4 0 (z + 1)) w' → Fr 0 w w' → J p l e R s m args below meth c Q D base nL k n9 q lv st w') : J p l e R s m args below meth c Q D base nL k n9 pc lv (.int (iI (z + 1)) :: .ref (ad 0 0) :: st) (wu w (ad 0 2) (eRow (ca 3) 200 (va_up (rw_ (ad 3) z) z.toNat (some (ad 3 z))))) := by
  subst hz
  have hnt : ad 0 0 ≠ ad 0 2 := ne_of_cell hC.cal hC.made (fun z => by cases z)
  exact j_put X hf ((wu_n hnt).trans hC.cal) (Nat.le_of_ble_eq_true rfl) rfl rfl hC.b0 d hq (kk _ (CW.add4 hC h0) ((Fr.set hC.made rfl).tr (Fr.set ((wu_n hnt).trans hC.cal) rfl)))
theorem ja_5 {p : Program} {l : Launch} {e : Env} {R : Room} {s : State} {m : MethodId} {args : Array Value} {below : List Frame} {meth : Method} {c : Code} {Q : State → Prop} {D : va_G} {nL k n9 pc q : Nat} {lv : List (Nat × Value)} {st : List Value} {y : MethodName} {cc : ByteArray} {ret : Option FieldType} (X : Cx p l s m args meth c y cc nL ret D ca base) (hC : CW base ca ad n nc nm S w) {z : Int} {a : Nat} (hz : S 5 0 = z) (h0 : 0 ≤ z) (h1 : z < nc) (h2 : z < 512) (ha : a = ad 2 z) (d : decode cc pc = .ok (.aastore, 1)) (hq : pc + 1 = q) (kk : J p l e R s m args below meth c Q D base nL k n9 q lv st (wu w (ad 0 3) (eRow (ca 4) 512 (va_up (rw_ (ad 2) z) z.toNat (some (ad 2 z)))))) : J p l e R s m args below meth c Q D base nL k n9 pc lv (.ref a :: .int (iI z) :: .ref (ad 0 3) :: st) w := by
  subst ha
  subst hz
  exact j_aast X (t := 4) (r := (RX0, TX0, 10)) rfl hC.log (hC.kal h0 h1) rfl ⟨h0, by omega⟩ (by decide) hC.2.1.2.2.2 d hq kk
theorem jb_5 {p : Program} {l : Launch} {e : Env} {R : Room} {s : State} {m : MethodId} {args : Array Value} {below : List Frame} {meth : Method} {c : Code} {Q : State → Prop} {D : va_G} {nL k n9 pc q : Nat} {lv : List (Nat × Value)} {st : List Value} {y : MethodName} {cc : ByteArray} {ret : Option FieldType} (X : Cx p l s m args meth c y cc nL ret D ca base) {idx : Nat} (hf : FP y.cls idx 3 5 .int false) (hC : CW base ca ad n nc nm S w) {z : Int} (hz : S 5 0 = z) (h0 : 0 ≤ z) (d : decode cc pc = .ok (.putfield idx, 3)) (hq : pc + 3 = q) (kk : ∀ w', CW base ca ad n nc nm (up S 5 0 (z + 1)) w' → Fr 0 w w' → J p l e R s m args below meth c Q D base nL k n9 q lv st w') : J p l e R s m args below meth c Q D base nL k n9 pc lv (.int (iI (z + 1)) :: .ref (ad 0 0) :: st) (wu w (ad 0 3) (eRow (ca 4) 512 (va_up (rw_ (ad 2) z) z.toNat (some (ad 2 z))))) := by
  subst hz
  have hnt : ad 0 0 ≠ ad 0 3 := ne_of_cell hC.cal hC.log (fun z => by cases z)
  exact j_put X hf ((wu_n hnt).trans hC.cal) (Nat.le_of_ble_eq_true rfl) rfl rfl hC.b0 d hq (kk _ (CW.add5 hC h0) ((Fr.set hC.log rfl).tr (Fr.set ((wu_n hnt).trans hC.cal) rfl)))
end CWNEW
end
section
set_option maxRecDepth 100000 in
set_option maxHeartbeats 4000000 in
theorem c_X0_init {l : Launch} (hlt : l.stackTraces = false) {D : va_G} {ca : Nat → ClassId} {base : Nat} {w : Wd} (mo dy lf : Int) (rb rs : Option Nat) (a : Nat) (hw : w a = some (.inr (0, [.int 0, .int 0, .int 0, .null, .null, .int 0, .int 0, .int 0, .int 0, .int 0]))) (hb : base ≤ a) : CT l D ca base yX0_init cX0_init 6 none 0 0 0 [.ref (a), .int (iI (mo)), .int (iI (dy)), .int (iI (lf)), va_rf (rb), va_rf (rs)] w (fun v w' => v = none ∧ w' = wu w a (.inr (0, [.int (iI mo), .int (iI dy), .int (iI lf), va_rf rb, va_rf rs, .int 0, .int 0, .int (iI 1000000), .int 0, .int 0]))) (fun _ _ => False) := by
  refine CT.mk hlt (by decide +kernel) (by first | exact Nat.le_of_ble_eq_true rfl | simp [lg_sl, cat_rf, cat_i, cat_l, cat_r]) ?_
  intro p e s m args below meth c X htab
  rw [show lv_args 0 [.ref (a), .int (iI (mo)), .int (iI (dy)), .int (iI (lf)), va_rf (rb), va_rf (rs)] = [(0, .ref (a)), (1, .int (iI (mo))), (2, .int (iI (dy))), (3, .int (iI (lf))), (4, va_rf (rb)), (5, va_rf (rs))] from by first | rfl | simp [lv_args, cat_rf, cat_i, cat_l, cat_r]]
  refine j_aload_n X dX0_init_0 (q := 1) rfl 0 rfl ?_
  refine j_objInit X oi_X0_3.1 oi_X0_3.2.1 oi_X0_3.2.2 (by decide) dX0_init_1 (q := 4) rfl ?_
  refine j_aload_n X dX0_init_4 (q := 5) rfl 0 rfl ?_
  refine j_iload_n X dX0_init_5 (q := 6) rfl 1 rfl ?_
  refine j_putF X fp_X0_9 rfl rfl hw (Nat.le_of_ble_eq_true rfl) rfl rfl hb dX0_init_6 (q := 9) rfl ?_
  refine j_w (w' := (wu w a (.inr (0, [.int (iI (mo)), .int 0, .int 0, .null, .null, .int 0, .int 0, .int 0, .int 0, .int 0])))) (by first | rfl | exact wu_wu) ?_
  refine j_aload_n X dX0_init_9 (q := 10) rfl 0 rfl ?_
  refine j_iload_n X dX0_init_10 (q := 11) rfl 2 rfl ?_
  refine j_putF X fp_X0_15 rfl rfl wu_s (Nat.le_of_ble_eq_true rfl) rfl rfl hb dX0_init_11 (q := 14) rfl ?_
  refine j_w (w' := (wu w a (.inr (0, [.int (iI (mo)), .int (iI (dy)), .int 0, .null, .null, .int 0, .int 0, .int 0, .int 0, .int 0])))) (by first | rfl | exact wu_wu) ?_
  refine j_aload_n X dX0_init_14 (q := 15) rfl 0 rfl ?_
  refine j_iload_n X dX0_init_15 (q := 16) rfl 3 rfl ?_
  refine j_putF X fp_X0_18 rfl rfl wu_s (Nat.le_of_ble_eq_true rfl) rfl rfl hb dX0_init_16 (q := 19) rfl ?_
  refine j_w (w' := (wu w a (.inr (0, [.int (iI (mo)), .int (iI (dy)), .int (iI (lf)), .null, .null, .int 0, .int 0, .int 0, .int 0, .int 0])))) (by first | rfl | exact wu_wu) ?_
  refine j_aload_n X dX0_init_19 (q := 20) rfl 0 rfl ?_
  refine j_aloadq X dX0_init_20 (q := 22) rfl 4 rfl ?_
  refine j_putF X fp_X0_21 rfl rfl wu_s (Nat.le_of_ble_eq_true rfl) (nar_rf _ _) (fit_rf _ _) hb dX0_init_22 (q := 25) rfl ?_
  refine j_w (w' := (wu w a (.inr (0, [.int (iI (mo)), .int (iI (dy)), .int (iI (lf)), va_rf (rb), .null, .int 0, .int 0, .int 0, .int 0, .int 0])))) (by first | rfl | exact wu_wu) ?_
  refine j_aload_n X dX0_init_25 (q := 26) rfl 0 rfl ?_
  refine j_aloadq X dX0_init_26 (q := 28) rfl 5 rfl ?_
  refine j_putF X fp_X0_25 rfl rfl wu_s (Nat.le_of_ble_eq_true rfl) (nar_rf _ _) (fit_rf _ _) hb dX0_init_28 (q := 31) rfl ?_
  refine j_w (w' := (wu w a (.inr (0, [.int (iI (mo)), .int (iI (dy)), .int (iI (lf)), va_rf (rb), va_rf (rs), .int 0, .int 0, .int 0, .int 0, .int 0])))) (by first | rfl | exact wu_wu) ?_
  refine j_aload_n X dX0_init_31 (q := 32) rfl 0 rfl ?_
  refine j_ldc X (a := 1000000) ko_X0_28 rfl dX0_init_32 (q := 34) rfl ?_
  refine j_put X fp_X0_29 wu_s (Nat.le_of_ble_eq_true rfl) rfl rfl hb dX0_init_34 (q := 37) rfl ?_
  refine j_w (w' := (wu w a (.inr (0, [.int (iI (mo)), .int (iI (dy)), .int (iI (lf)), va_rf (rb), va_rf (rs), .int 0, .int 0, .int (iI (1000000)), .int 0, .int 0])))) (by first | rfl | exact wu_wu) ?_
  exact j_vret X rfl dX0_init_37 (⟨rfl, rfl⟩) (by decide) (by decide)

set_option maxRecDepth 100000 in
set_option maxHeartbeats 4000000 in
theorem c_X1_init {l : Launch} (hlt : l.stackTraces = false) {D : va_G} {ca : Nat → ClassId} {base : Nat} {w : Wd} (nu to un iv : Int) (a : Nat) (hw : w a = some (.inr (1, [.int 0, .int 0, .int 0, .int 0, .null, .null, .int 0, .long 0, .long 0]))) (hb : base ≤ a) : CT l D ca base yX1_init cX1_init 5 none 0 0 0 [.ref (a), .int (iI (nu)), .int (iI (to)), .int (iI (un)), .int (iI (iv))] w (fun v w' => v = none ∧ w' = wu w a (.inr (1, [.int (iI nu), .int (iI to), .int (iI un), .int (iI iv), .null, .null, .int 0, .long 0, .long 0]))) (fun _ _ => False) := by
  refine CT.mk hlt (by decide +kernel) (by first | exact Nat.le_of_ble_eq_true rfl | simp [lg_sl, cat_rf, cat_i, cat_l, cat_r]) ?_
  intro p e s m args below meth c X htab
  rw [show lv_args 0 [.ref (a), .int (iI (nu)), .int (iI (to)), .int (iI (un)), .int (iI (iv))] = [(0, .ref (a)), (1, .int (iI (nu))), (2, .int (iI (to))), (3, .int (iI (un))), (4, .int (iI (iv)))] from by first | rfl | simp [lv_args, cat_rf, cat_i, cat_l, cat_r]]
  refine j_aload_n X dX1_init_0 (q := 1) rfl 0 rfl ?_
  refine j_objInit X oi_X1_1.1 oi_X1_1.2.1 oi_X1_1.2.2 (by decide) dX1_init_1 (q := 4) rfl ?_
  refine j_aload_n X dX1_init_4 (q := 5) rfl 0 rfl ?_
  refine j_iload_n X dX1_init_5 (q := 6) rfl 1 rfl ?_
  refine j_putF X fp_X1_7 rfl rfl hw (Nat.le_of_ble_eq_true rfl) rfl rfl hb dX1_init_6 (q := 9) rfl ?_
  refine j_w (w' := (wu w a (.inr (1, [.int (iI (nu)), .int 0, .int 0, .int 0, .null, .null, .int 0, .long 0, .long 0])))) (by first | rfl | exact wu_wu) ?_
  refine j_aload_n X dX1_init_9 (q := 10) rfl 0 rfl ?_
  refine j_iload_n X dX1_init_10 (q := 11) rfl 2 rfl ?_
  refine j_putF X fp_X1_13 rfl rfl wu_s (Nat.le_of_ble_eq_true rfl) rfl rfl hb dX1_init_11 (q := 14) rfl ?_
  refine j_w (w' := (wu w a (.inr (1, [.int (iI (nu)), .int (iI (to)), .int 0, .int 0, .null, .null, .int 0, .long 0, .long 0])))) (by first | rfl | exact wu_wu) ?_
  refine j_aload_n X dX1_init_14 (q := 15) rfl 0 rfl ?_
  refine j_iload_n X dX1_init_15 (q := 16) rfl 3 rfl ?_
  refine j_putF X fp_X1_16 rfl rfl wu_s (Nat.le_of_ble_eq_true rfl) rfl rfl hb dX1_init_16 (q := 19) rfl ?_
  refine j_w (w' := (wu w a (.inr (1, [.int (iI (nu)), .int (iI (to)), .int (iI (un)), .int 0, .null, .null, .int 0, .long 0, .long 0])))) (by first | rfl | exact wu_wu) ?_
  refine j_aload_n X dX1_init_19 (q := 20) rfl 0 rfl ?_
  refine j_iload X dX1_init_20 (q := 22) rfl 4 rfl ?_
  refine j_put X fp_X1_19 wu_s (Nat.le_of_ble_eq_true rfl) rfl rfl hb dX1_init_22 (q := 25) rfl ?_
  refine j_w (w' := (wu w a (.inr (1, [.int (iI (nu)), .int (iI (to)), .int (iI (un)), .int (iI (iv)), .null, .null, .int 0, .long 0, .long 0])))) (by first | rfl | exact wu_wu) ?_
  exact j_vret X rfl dX1_init_25 (⟨rfl, rfl⟩) (by decide) (by decide)

set_option maxRecDepth 100000 in
set_option maxHeartbeats 4000000 in
theorem c_X2_init {l : Launch} (hlt : l.stackTraces = false) {D : va_G} {ca : Nat → ClassId} {base : Nat} {w : Wd} (mo : Int) (rb : Option Nat) (a : Nat) (hw : w a = some (.inr (2, [.int 0, .null, .int 0]))) (hb : base ≤ a) : CT l D ca base yX2_init cX2_init 3 none 0 0 0 [.ref (a), .int (iI (mo)), va_rf (rb)] w (fun v w' => v = none ∧ w' = wu w a (.inr (2, [.int (iI mo), va_rf rb, .int 0]))) (fun _ _ => False) := by
  refine CT.mk hlt (by decide +kernel) (by first | exact Nat.le_of_ble_eq_true rfl | simp [lg_sl, cat_rf, cat_i, cat_l, cat_r]) ?_
  intro p e s m args below meth c X htab
  rw [show lv_args 0 [.ref (a), .int (iI (mo)), va_rf (rb)] = [(0, .ref (a)), (1, .int (iI (mo))), (2, va_rf (rb))] from by first | rfl | simp [lv_args, cat_rf, cat_i, cat_l, cat_r]]
  refine j_aload_n X dX2_init_0 (q := 1) rfl 0 rfl ?_
  refine j_objInit X oi_X2_1.1 oi_X2_1.2.1 oi_X2_1.2.2 (by decide) dX2_init_1 (q := 4) rfl ?_
  refine j_aload_n X dX2_init_4 (q := 5) rfl 0 rfl ?_
  refine j_iload_n X dX2_init_5 (q := 6) rfl 1 rfl ?_
  refine j_putF X fp_X2_7 rfl rfl hw (Nat.le_of_ble_eq_true rfl) rfl rfl hb dX2_init_6 (q := 9) rfl ?_
  refine j_w (w' := (wu w a (.inr (2, [.int (iI (mo)), .null, .int 0])))) (by first | rfl | exact wu_wu) ?_
  refine j_aload_n X dX2_init_9 (q := 10) rfl 0 rfl ?_
  refine j_aloadq_n X dX2_init_10 (q := 11) rfl 2 rfl ?_
  refine j_putF X fp_X2_13 rfl rfl wu_s (Nat.le_of_ble_eq_true rfl) (nar_rf _ _) (fit_rf _ _) hb dX2_init_11 (q := 14) rfl ?_
  refine j_w (w' := (wu w a (.inr (2, [.int (iI (mo)), va_rf (rb), .int 0])))) (by first | rfl | exact wu_wu) ?_
  exact j_vret X rfl dX2_init_14 (⟨rfl, rfl⟩) (by decide) (by decide)

def S0 : St := fun _ _ => 0
set_option maxRecDepth 100000 in
set_option maxHeartbeats 4000000 in
theorem c_X3_init {l : Launch} (hlt : l.stackTraces = false) {D : va_G} {ca : Nat → ClassId} {base : Nat} {w : Wd} (b : Nat) (hw : w b = some (.inr (3, [.null, .null, .null, .int 0, .int 0, .int 0, .int 0, .int 0, .int 0]))) (hb : base ≤ b) : CT l D ca base yX3_init cX3_init 1 none 0 3 724 [.ref (b)] w (fun v w' => v = none ∧ (∃ ad : Nat → Int → Nat, ad 0 0 = b ∧ CW base ca ad 0 0 0 S0 w') ∧ Fr 0 w w') (fun _ _ => False) := by
  refine CT.mk hlt (by decide +kernel) (by first | exact Nat.le_of_ble_eq_true rfl | simp [lg_sl, cat_rf, cat_i, cat_l, cat_r]) ?_
  intro p e s m args below meth c X htab
  rw [show lv_args 0 [.ref (b)] = [(0, .ref (b))] from by first | rfl | simp [lv_args, cat_rf, cat_i, cat_l, cat_r]]
  refine j_aload_n X dX3_init_0 (q := 1) rfl 0 rfl ?_
  refine j_objInit X oi_X3_1.1 oi_X3_1.2.1 oi_X3_1.2.2 (by decide) dX3_init_1 (q := 4) rfl ?_
  refine j_aload_n X dX3_init_4 (q := 5) rfl 0 rfl ?_
  refine j_bipush X (a := 12) (by decide +kernel) dX3_init_5 (q := 7) rfl ?_
  refine j_newq X (N := 12) (t := 2) rfl (by decide) cl_X3_9 (by decide) (by decide) (by decide) dX3_init_7 (q := 10) rfl (fun a1 hb1 hn1 => ?_)
  have hne1 : b ≠ a1 := fun z => by rw [← z, hw] at hn1; cases hn1
  refine j_putF X fp_X3_11 rfl rfl (a := b) ((wu_n hne1).trans hw) (Nat.le_of_ble_eq_true rfl) rfl rfl hb dX3_init_10 (q := 13) rfl ?_
  refine j_w (w' := (wu (wu w a1 (eRow (ca 2) 12 (fun _ => none))) b (.inr (3, [.ref (a1), .null, .null, .int 0, .int 0, .int 0, .int 0, .int 0, .int 0])))) rfl ?_
  refine j_aload_n X dX3_init_13 (q := 14) rfl 0 rfl ?_
  refine j_sipush X (a := 200) (by decide +kernel) dX3_init_14 (q := 17) rfl ?_
  refine j_newq X (N := 200) (t := 3) rfl (by decide) cl_X3_15 (by decide) (by decide) (by decide) dX3_init_17 (q := 20) rfl (fun a2 hb2 hn2 => ?_)
  have hne2 : b ≠ a2 := fun z => by rw [← z, wu_s] at hn2; cases hn2
  refine j_putF X fp_X3_17 rfl rfl (a := b) ((wu_n hne2).trans wu_s) (Nat.le_of_ble_eq_true rfl) rfl rfl hb dX3_init_20 (q := 23) rfl ?_
  refine j_w (w' := (wu (wu (wu (wu w a1 (eRow (ca 2) 12 (fun _ => none))) b (.inr (3, [.ref (a1), .null, .null, .int 0, .int 0, .int 0, .int 0, .int 0, .int 0]))) a2 (eRow (ca 3) 200 (fun _ => none))) b (.inr (3, [.ref (a1), .ref (a2), .null, .int 0, .int 0, .int 0, .int 0, .int 0, .int 0])))) rfl ?_
  refine j_aload_n X dX3_init_23 (q := 24) rfl 0 rfl ?_
  refine j_sipush X (a := 512) (by decide +kernel) dX3_init_24 (q := 27) rfl ?_
  refine j_newq X (N := 512) (t := 4) rfl (by decide) cl_X3_21 (by decide) (by decide) (by decide) dX3_init_27 (q := 30) rfl (fun a3 hb3 hn3 => ?_)
  have hne3 : b ≠ a3 := fun z => by rw [← z, wu_s] at hn3; cases hn3
  refine j_putF X fp_X3_23 rfl rfl (a := b) ((wu_n hne3).trans wu_s) (Nat.le_of_ble_eq_true rfl) rfl rfl hb dX3_init_30 (q := 33) rfl ?_
  refine j_w (w' := (wu (wu (wu (wu (wu (wu w a1 (eRow (ca 2) 12 (fun _ => none))) b (.inr (3, [.ref (a1), .null, .null, .int 0, .int 0, .int 0, .int 0, .int 0, .int 0]))) a2 (eRow (ca 3) 200 (fun _ => none))) b (.inr (3, [.ref (a1), .ref (a2), .null, .int 0, .int 0, .int 0, .int 0, .int 0, .int 0]))) a3 (eRow (ca 4) 512 (fun _ => none))) b (.inr (3, [.ref (a1), .ref (a2), .ref (a3), .int 0, .int 0, .int 0, .int 0, .int 0, .int 0])))) rfl ?_
  have q12 : a1 ≠ a2 := fun z => by rw [← z, wu_n (Ne.symm hne1), wu_s] at hn2; cases hn2
  have q13 : a1 ≠ a3 := fun z => by rw [← z, wu_n (Ne.symm hne1), wu_n q12, wu_n (Ne.symm hne1), wu_s] at hn3; cases hn3
  have q23 : a2 ≠ a3 := fun z => by rw [← z, wu_n (Ne.symm hne2), wu_s] at hn3; cases hn3
  have er : ∀ f : Int → Nat, rw_ f (S0 3 0) = fun _ => none := fun f => by funext j; unfold rw_; exact if_neg (by show ¬ ((j : Int) < 0); omega)
  refine j_vret X rfl dX3_init_33 ⟨rfl, ⟨fun k j => if k = 0 then (if j = 0 then b else if j = 1 then a1 else if j = 2 then a2 else a3) else 0, rfl, ⟨⟨wu_s, ?_, ?_, ?_⟩, ⟨hb, hb1, hb2, hb3⟩, fun i h0 h1 => by omega, fun i h0 h1 => by omega, fun i h0 h1 => by omega, fun i j h0 h1 => by omega, fun i j h0 h1 => by omega, fun i j h0 h1 => by omega⟩⟩, ?_⟩ (by decide) (by decide)
  · show wu _ _ _ a1 = some (eRow (ca 2) 12 (rw_ _ (S0 3 0)))
    rw [er, wu_n (Ne.symm hne1), wu_n q13, wu_n (Ne.symm hne1), wu_n q12, wu_n (Ne.symm hne1), wu_s]
  · show wu _ _ _ a2 = some (eRow (ca 3) 200 (rw_ _ (S0 3 0)))
    rw [er, wu_n (Ne.symm hne2), wu_n q23, wu_n (Ne.symm hne2), wu_s]
  · show wu _ _ _ a3 = some (eRow (ca 4) 512 (rw_ _ (S0 3 0)))
    rw [er, wu_n (Ne.symm hne3), wu_s]
  · exact ((((Fr.new hn1).tr (Fr.set ((wu_n hne1).trans hw) rfl)).tr (Fr.new hn2)).tr (Fr.set ((wu_n hne2).trans wu_s) rfl)).tr ((Fr.new hn3).tr (Fr.set ((wu_n hne3).trans wu_s) rfl))

set_option maxRecDepth 100000 in
set_option maxHeartbeats 4000000 in
theorem c_X3_pass {l : Launch} (hlt : l.stackTraces = false) {D : va_G} {ca : Nat → ClassId} {base : Nat} {ad : Nat → Int → Nat} {n nc nm : Int} {S : St} {w : Wd} (hC : CW base ca ad n nc nm S w) (hI : IC n nc nm S) (z : Int) (hz : -2147483648 ≤ z ∧ z ≤ 2147483647) : CT l D ca base yX3_pass cX3_pass 2 (some .int) 0 1 6 [.ref (ad 0 0), .int (iI (z))] w (fun v w' => (1 ≤ z ∧ z ≤ 999) ∧ v = some (.int (iI (S 7 0 + z))) ∧ CW base ca ad n nc nm (up S 7 0 (S 7 0 + z)) w' ∧ Fr 0 w w') (fun E w' => ¬ (1 ≤ z ∧ z ≤ 999) ∧ E = nIA ∧ w = w') := by
  obtain ⟨hn, hnc, hnm, e3, e4, e5, h6, h7, h8⟩ := hI.top
  refine CT.mk hlt (by decide +kernel) (by first | exact Nat.le_of_ble_eq_true rfl | simp [lg_sl, cat_rf, cat_i, cat_l, cat_r]) ?_
  intro p e s m args below meth c X htab
  rw [show lv_args 0 [.ref (ad 0 0), .int (iI (z))] = [(0, .ref (ad 0 0)), (1, .int (iI (z)))] from by first | rfl | simp [lv_args, cat_rf, cat_i, cat_l, cat_r]]
  refine j_iload_n X dX3_pass_0 (q := 1) rfl 1 rfl ?_
  refine j_iconst X (a := 1) dX3_pass_1 (q := 2) rfl ?_
  refine j_icmp_lt X (tgt := 12) dX3_pass_2 (by decide) (q := 5) rfl (by omega) (by omega) (fun c_2 => ?_) (fun c_2 => ?_)
  · skip
    exact j_throw X htab ts_31_67 dX3_pass_12 dX3_pass_15 dX3_pass_16 dX3_pass_18 dX3_pass_21 (by decide) (by decide) (by decide) (by decide) (⟨by omega, rfl, rfl⟩) (by decide) (by decide)
  · skip
    refine j_iload_n X dX3_pass_5 (q := 6) rfl 1 rfl ?_
    refine j_sipush X (a := 999) (by decide +kernel) dX3_pass_6 (q := 9) rfl ?_
    refine j_icmp_le X (tgt := 22) dX3_pass_9 (by decide) (q := 12) rfl (by omega) (by omega) (fun c_9 => ?_) (fun c_9 => ?_)
    · skip
      refine j_aload_n X dX3_pass_22 (q := 23) rfl 0 rfl ?_
      refine j_dup X (by first | rfl | exact cat_rf _) dX3_pass_23 (q := 24) rfl ?_
      refine j_get X (v := .int (iI (S 7 0))) fl_X3_69 hC.cal rfl dX3_pass_24 (q := 27) rfl ?_
      refine j_iload_n X dX3_pass_27 (q := 28) rfl 1 rfl ?_
      refine j_iadd X dX3_pass_28 (q := 29) rfl ?_
      refine jp_7 X fp_X3_69 hC dX3_pass_29 (q := 32) rfl (fun w1 hC1 hF1 => ?_)
      refine j_aload_n X dX3_pass_32 (q := 33) rfl 0 rfl ?_
      refine j_get X (v := .int (iI (S 7 0 + z))) fl_X3_69 hC1.cal (by show some (Value.int (iI (up S 7 0 (S 7 0 + z) 7 0))) = _; rw [up_s]) dX3_pass_33 (q := 36) rfl ?_
      exact j_iret X rfl dX3_pass_36 (⟨by omega, rfl, hC1, hF1⟩) (by decide) (by decide)
    · skip
      exact j_throw X htab ts_31_67 dX3_pass_12 dX3_pass_15 dX3_pass_16 dX3_pass_18 dX3_pass_21 (by decide) (by decide) (by decide) (by decide) (⟨by omega, rfl, rfl⟩) (by decide) (by decide)

set_option maxRecDepth 100000 in
set_option maxHeartbeats 4000000 in
theorem c_X3_refer {l : Launch} (hlt : l.stackTraces = false) {D : va_G} {ca : Nat → ClassId} {base : Nat} {ad : Nat → Int → Nat} {n nc nm : Int} {S : St} {w : Wd} (hC : CW base ca ad n nc nm S w) (hI : IC n nc nm S) (i r : Int) (hri : -2147483648 ≤ i ∧ i ≤ 2147483647) (hrr : -2147483648 ≤ r ∧ r ≤ 2147483647) : CT l D ca base yX3_refer cX3_refer 6 (some .int) 2 3 18 [.ref (ad 0 0), .int (iI (i)), .int (iI (r))] w (fun v w' => ((0 ≤ i ∧ i < n) ∧ (r = -1 ∨ (0 ≤ r ∧ r < n)) ∧ inCh (S 14) 12 r i = 0) ∧ v = some (.int (iI (S 14 i))) ∧ CW base ca ad n nc nm (up S 14 i r) w' ∧ Fr 0 w w') (fun E w' => ((¬ ((0 ≤ i ∧ i < n) ∧ (r = -1 ∨ (0 ≤ r ∧ r < n))) ∧ E = nIO) ∨ (((0 ≤ i ∧ i < n) ∧ (r = -1 ∨ (0 ≤ r ∧ r < n))) ∧ inCh (S 14) 12 r i ≠ 0 ∧ E = nIS)) ∧ w = w') := by
  obtain ⟨hn, hnc, hnm, e3, e4, e5, h6, h7, h8⟩ := hI.top
  refine CT.mk hlt (by decide +kernel) (by first | exact Nat.le_of_ble_eq_true rfl | simp [lg_sl, cat_rf, cat_i, cat_l, cat_r]) ?_
  intro p e s m args below meth c X htab
  rw [show lv_args 0 [.ref (ad 0 0), .int (iI (i)), .int (iI (r))] = [(0, .ref (ad 0 0)), (1, .int (iI (i))), (2, .int (iI (r)))] from by first | rfl | simp [lv_args, cat_rf, cat_i, cat_l, cat_r]]
  refine j_aload_n X dX3_refer_0 (q := 1) rfl 0 rfl ?_
  refine j_iload_n X dX3_refer_1 (q := 2) rfl 1 rfl ?_
  refine j_callV X (As := [.int (iI (i))]) (st := []) hC.cal rfl (c_X3_known hlt hC hI i hri) sv_X3_54 (by decide) rfl (by first | decide | simp [cat_rf, cat_i, cat_l, cat_r]) dX3_refer_2 (by decide) (fun E w' h => jx_out X htab ⟨Or.inl ⟨by omega, h.2.1⟩, h.2.2⟩ (by decide) (by decide)) ?_
  rintro v9 w9 ⟨k1, rfl, rfl⟩
  refine j_st (st := [va_rf (pt (ad 1) (i))]) ?_
  obtain ⟨f_1_0, f_1_1, f_1_2, f_1_3, f_1_4, f_1_5, f_1_6, f_1_7, f_1_8⟩ := hI.ins k1.1 k1.2
  refine j_astoreq_n X (i := 3) dX3_refer_5 rfl (by decide) (q := 6) rfl (lv' := [(3, va_rf (pt (ad 1) (i))), (0, .ref (ad 0 0)), (1, .int (iI (i))), (2, .int (iI (r)))]) (by first | rfl | simp [cat_rf, cat_i, cat_l, cat_r]) ?_
  refine j_aload_n X dX3_refer_6 (q := 7) rfl 1 rfl ?_
  refine j_iload_n X dX3_refer_7 (q := 8) rfl 3 rfl ?_
  refine j_callV X (As := [.int (iI (r))]) (st := []) hC.cal rfl (c_X3_knownOrNone hlt hC hI r hrr) sv_X3_27 (by decide) rfl (by first | decide | simp [cat_rf, cat_i, cat_l, cat_r]) dX3_refer_8 (by decide) (fun E w' h => jx_out X htab ⟨Or.inl ⟨by omega, h.2.1⟩, h.2.2⟩ (by decide) (by decide)) ?_
  rintro v9 w9 ⟨k2, rfl, rfl⟩
  refine j_st (st := [va_rf (pt (ad 1) (r))]) ?_
  refine j_astoreq X (i := 4) dX3_refer_11 (by decide) (q := 13) rfl (lv' := [(4, va_rf (pt (ad 1) (r))), (3, va_rf (pt (ad 1) (i))), (0, .ref (ad 0 0)), (1, .int (iI (i))), (2, .int (iI (r)))]) (by first | rfl | simp [cat_rf, cat_i, cat_l, cat_r]) ?_
  refine j_aloadq_n X dX3_refer_13 (q := 14) rfl 1 rfl ?_
  refine j_aloadq X dX3_refer_14 (q := 16) rfl 0 rfl ?_
  refine j_callS X (As := [va_rf (pt (ad 1) (i)), va_rf (pt (ad 1) (r))]) (st := [])  (c_X3_isInChain hlt hC hI i r k1 (by omega)) ss_X3_57 (by decide) rfl (by first | decide | simp [cat_rf, cat_i, cat_l, cat_r]) dX3_refer_16 (by decide) (fun _ _ h => h.elim) ?_
  rintro v9 w9 ⟨rfl, rfl⟩
  refine j_st (st := [.int (iI (inCh (S 14) 12 r i))]) ?_
  have hb9 := inCh_b (S 14) 12 r i
  refine j_if_eq X (tgt := 32) dX3_refer_19 (by decide) (q := 22) rfl (by omega) (fun c_19 => ?_) (fun c_19 => ?_)
  · skip
    refine j_aloadq_n X dX3_refer_32 (q := 33) rfl 1 rfl ?_
    refine j_getp X (v := va_rf (pt (ad 1) (S 14 i))) fl_X3_50 k1.1 (hC.ins k1.1 k1.2) rfl dX3_refer_33 (q := 36) rfl ?_
    refine j_callS X (As := [va_rf (pt (ad 1) (S 14 i))]) (st := [])  (c_X3_numberOf hlt hC hI (S 14 i) (by omega)) ss_X3_63 (by decide) rfl (by first | decide | simp [cat_rf, cat_i, cat_l, cat_r]) dX3_refer_36 (by decide) (fun _ _ h => h.elim) ?_
    rintro v9 w9 ⟨rfl, rfl⟩
    refine j_st (st := [.int (iI (S 14 i))]) ?_
    refine j_istore X (i := 5) dX3_refer_39 (by decide) (q := 41) rfl (lv' := [(5, .int (iI (S 14 i))), (4, va_rf (pt (ad 1) (r))), (3, va_rf (pt (ad 1) (i))), (0, .ref (ad 0 0)), (1, .int (iI (i))), (2, .int (iI (r)))]) (by first | rfl | simp [cat_rf, cat_i, cat_l, cat_r]) ?_
    refine j_aloadq_n X dX3_refer_41 (q := 42) rfl 2 rfl ?_
    refine j_aloadq X dX3_refer_42 (q := 44) rfl 1 rfl ?_
    refine jp_14 X fp_X3_50 hC k1.1 k1.2 dX3_refer_44 (q := 47) rfl (fun w1 hC1 hF1 => ?_)
    refine j_iload X dX3_refer_47 (q := 49) rfl 0 rfl ?_
    exact j_iret X rfl dX3_refer_49 (⟨⟨k1, k2, c_19⟩, rfl, hC1, hF1⟩) (by decide) (by decide)
  · skip
    exact j_throw X htab ts_42_61 dX3_refer_22 dX3_refer_25 dX3_refer_26 dX3_refer_28 dX3_refer_31 (by decide) (by decide) (by decide) (by decide) (⟨Or.inr ⟨⟨k1, k2⟩, c_19, rfl⟩, rfl⟩) (by decide) (by decide)

def tlF (n t u v r : Int) : Nat → Int := fun g => if g = 10 then n else if g = 11 then t else if g = 12 then u else if g = 13 then v else if g = 14 then r else if g = 15 then -1 else 0
def tlS (S : St) (n t u v r : Int) : St := up (up (nwI S n (tlF n t u v (-1))) 14 n r) 3 0 (n + 1)
set_option maxRecDepth 100000 in
set_option maxHeartbeats 4000000 in
theorem c_X3_tell {l : Launch} (hlt : l.stackTraces = false) {D : va_G} {ca : Nat → ClassId} {base : Nat} {ad : Nat → Int → Nat} {n nc nm : Int} {S : St} {w : Wd} (hC : CW base ca ad n nc nm S w) (hI : IC n nc nm S) (r t u v : Int) (hrr : -2147483648 ≤ r ∧ r ≤ 2147483647) (ht : -2147483648 ≤ t ∧ t ≤ 2147483647) (hu : -2147483648 ≤ u ∧ u ≤ 2147483647) (hv : -2147483648 ≤ v ∧ v ≤ 2147483647) : CT l D ca base yX3_tell cX3_tell 8 (some .int) 2 3 24 [.ref (ad 0 0), .int (iI (r)), .int (iI (t)), .int (iI (u)), .int (iI (v))] w (fun o w' => ((r = -1 ∨ (0 ≤ r ∧ r < n)) ∧ ((1 ≤ t ∧ t ≤ 9999) ∧ (0 ≤ u ∧ u ≤ 999) ∧ (1 ≤ v ∧ v ≤ 999)) ∧ n < 12) ∧ o = some (.int (iI n)) ∧ (∃ ad', CW base ca ad' (n + 1) nc nm (tlS S n t u v r) w' ∧ ad' 0 0 = ad 0 0) ∧ Fr 0 w w') (fun E w' => ((¬ (r = -1 ∨ (0 ≤ r ∧ r < n)) ∧ E = nIO) ∨ ((r = -1 ∨ (0 ≤ r ∧ r < n)) ∧ ¬ ((1 ≤ t ∧ t ≤ 9999) ∧ (0 ≤ u ∧ u ≤ 999) ∧ (1 ≤ v ∧ v ≤ 999)) ∧ E = nIA) ∨ ((r = -1 ∨ (0 ≤ r ∧ r < n)) ∧ ((1 ≤ t ∧ t ≤ 9999) ∧ (0 ≤ u ∧ u ≤ 999) ∧ (1 ≤ v ∧ v ≤ 999)) ∧ ¬ n < 12 ∧ E = nIS)) ∧ w = w') := by
  obtain ⟨hn, hnc, hnm, e3, e4, e5, h6, h7, h8⟩ := hI.top
  refine CT.mk hlt (by decide +kernel) (by first | exact Nat.le_of_ble_eq_true rfl | simp [lg_sl, cat_rf, cat_i, cat_l, cat_r]) ?_
  intro p e s m args below meth c X htab
  rw [show lv_args 0 [.ref (ad 0 0), .int (iI (r)), .int (iI (t)), .int (iI (u)), .int (iI (v))] = [(0, .ref (ad 0 0)), (1, .int (iI (r))), (2, .int (iI (t))), (3, .int (iI (u))), (4, .int (iI (v)))] from by first | rfl | simp [lv_args, cat_rf, cat_i, cat_l, cat_r]]
  refine j_aload_n X dX3_tell_0 (q := 1) rfl 0 rfl ?_
  refine j_iload_n X dX3_tell_1 (q := 2) rfl 1 rfl ?_
  refine j_callV X (As := [.int (iI (r))]) (st := []) hC.cal rfl (c_X3_knownOrNone hlt hC hI r hrr) sv_X3_27 (by decide) rfl (by first | decide | simp [cat_rf, cat_i, cat_l, cat_r]) dX3_tell_2 (by decide) (fun E w' h => jx_out X htab ⟨Or.inl ⟨h.1, h.2.1⟩, h.2.2⟩ (by decide) (by decide)) ?_
  rintro v9 w9 ⟨k2, rfl, rfl⟩
  refine j_st (st := [va_rf (pt (ad 1) (r))]) ?_
  refine j_astoreq X (i := 5) dX3_tell_5 (by decide) (q := 7) rfl (lv' := [(5, va_rf (pt (ad 1) (r))), (0, .ref (ad 0 0)), (1, .int (iI (r))), (2, .int (iI (t))), (3, .int (iI (u))), (4, .int (iI (v)))]) (by first | rfl | simp [cat_rf, cat_i, cat_l, cat_r]) ?_
  refine j_iload_n X dX3_tell_7 (q := 8) rfl 3 rfl ?_
  refine j_iconst X (a := 1) dX3_tell_8 (q := 9) rfl ?_
  refine j_icmp_lt X (tgt := 44) dX3_tell_9 (by decide) (q := 12) rfl (by omega) (by omega) (fun c_9 => ?_) (fun c_9 => ?_)
  · skip
    exact j_throw X htab ts_31_33 dX3_tell_44 dX3_tell_47 dX3_tell_48 dX3_tell_50 dX3_tell_53 (by decide) (by decide) (by decide) (by decide) (⟨Or.inr (Or.inl ⟨k2, by omega, rfl⟩), rfl⟩) (by decide) (by decide)
  · skip
    refine j_iload_n X dX3_tell_12 (q := 13) rfl 3 rfl ?_
    refine j_sipush X (a := 9999) (by decide +kernel) dX3_tell_13 (q := 16) rfl ?_
    refine j_icmp_gt X (tgt := 44) dX3_tell_16 (by decide) (q := 19) rfl (by omega) (by omega) (fun c_16 => ?_) (fun c_16 => ?_)
    · skip
      exact j_throw X htab ts_31_33 dX3_tell_44 dX3_tell_47 dX3_tell_48 dX3_tell_50 dX3_tell_53 (by decide) (by decide) (by decide) (by decide) (⟨Or.inr (Or.inl ⟨k2, by omega, rfl⟩), rfl⟩) (by decide) (by decide)
    · skip
      refine j_iload_n X dX3_tell_19 (q := 20) rfl 4 rfl ?_
      refine j_if_lt X (tgt := 44) dX3_tell_20 (by decide) (q := 23) rfl (by omega) (fun c_20 => ?_) (fun c_20 => ?_)
      · skip
        exact j_throw X htab ts_31_33 dX3_tell_44 dX3_tell_47 dX3_tell_48 dX3_tell_50 dX3_tell_53 (by decide) (by decide) (by decide) (by decide) (⟨Or.inr (Or.inl ⟨k2, by omega, rfl⟩), rfl⟩) (by decide) (by decide)
      · skip
        refine j_iload_n X dX3_tell_23 (q := 24) rfl 4 rfl ?_
        refine j_sipush X (a := 999) (by decide +kernel) dX3_tell_24 (q := 27) rfl ?_
        refine j_icmp_gt X (tgt := 44) dX3_tell_27 (by decide) (q := 30) rfl (by omega) (by omega) (fun c_27 => ?_) (fun c_27 => ?_)
        · skip
          exact j_throw X htab ts_31_33 dX3_tell_44 dX3_tell_47 dX3_tell_48 dX3_tell_50 dX3_tell_53 (by decide) (by decide) (by decide) (by decide) (⟨Or.inr (Or.inl ⟨k2, by omega, rfl⟩), rfl⟩) (by decide) (by decide)
        · skip
          refine j_iload X dX3_tell_30 (q := 32) rfl 5 rfl ?_
          refine j_iconst X (a := 1) dX3_tell_32 (q := 33) rfl ?_
          refine j_icmp_lt X (tgt := 44) dX3_tell_33 (by decide) (q := 36) rfl (by omega) (by omega) (fun c_33 => ?_) (fun c_33 => ?_)
          · skip
            exact j_throw X htab ts_31_33 dX3_tell_44 dX3_tell_47 dX3_tell_48 dX3_tell_50 dX3_tell_53 (by decide) (by decide) (by decide) (by decide) (⟨Or.inr (Or.inl ⟨k2, by omega, rfl⟩), rfl⟩) (by decide) (by decide)
          · skip
            refine j_iload X dX3_tell_36 (q := 38) rfl 5 rfl ?_
            refine j_sipush X (a := 999) (by decide +kernel) dX3_tell_38 (q := 41) rfl ?_
            refine j_icmp_le X (tgt := 54) dX3_tell_41 (by decide) (q := 44) rfl (by omega) (by omega) (fun c_41 => ?_) (fun c_41 => ?_)
            · skip
              refine j_aload_n X dX3_tell_54 (q := 55) rfl 1 rfl ?_
              refine j_get X (v := .int (iI (S 3 0))) fl_X3_38 hC.cal rfl dX3_tell_55 (q := 58) rfl ?_
              refine j_istore X (i := 6) dX3_tell_58 (by decide) (q := 60) rfl (lv' := [(6, .int (iI (S 3 0))), (5, va_rf (pt (ad 1) (r))), (0, .ref (ad 0 0)), (1, .int (iI (r))), (2, .int (iI (t))), (3, .int (iI (u))), (4, .int (iI (v)))]) (by first | rfl | simp [cat_rf, cat_i, cat_l, cat_r]) ?_
              refine j_iload X dX3_tell_60 (q := 62) rfl 0 rfl ?_
              refine j_if_lt X (tgt := 75) dX3_tell_62 (by decide) (q := 65) rfl (by omega) (fun c_62 => ?_) (fun c_62 => ?_)
              · skip
                exact j_throw X htab ts_42_44 dX3_tell_75 dX3_tell_78 dX3_tell_79 dX3_tell_81 dX3_tell_84 (by decide) (by decide) (by decide) (by decide) (⟨Or.inr (Or.inr ⟨k2, by omega, by omega, rfl⟩), rfl⟩) (by decide) (by decide)
              · skip
                refine j_iload X dX3_tell_65 (q := 67) rfl 0 rfl ?_
                refine j_aload_n X dX3_tell_67 (q := 68) rfl 2 rfl ?_
                refine j_get X (v := .ref (ad 0 1)) fl_X3_11 hC.cal rfl dX3_tell_68 (q := 71) rfl ?_
                refine j_alen X (t := 2) (N := 12) rfl hC.told rfl dX3_tell_71 (q := 72) rfl ?_
                refine j_icmp_lt X (tgt := 85) dX3_tell_72 (by decide) (q := 75) rfl (by omega) (by omega) (fun c_72 => ?_) (fun c_72 => ?_)
                · skip
                  refine j_new X nw_X3_9 (by decide) (by decide) dX3_tell_85 (q := 88) rfl (fun a hb hn0 => ?_)
                  refine j_dup X (by first | rfl | exact cat_rf _) dX3_tell_88 (q := 89) rfl ?_
                  refine j_iload X dX3_tell_89 (q := 91) rfl 0 rfl ?_
                  refine j_iload_n X dX3_tell_91 (q := 92) rfl 4 rfl ?_
                  refine j_iload_n X dX3_tell_92 (q := 93) rfl 5 rfl ?_
                  refine j_iload X dX3_tell_93 (q := 95) rfl 6 rfl ?_
                  have en : S 3 0 = n := e3
                  refine j_callI X (As := [.int (iI (S 3 0)), .int (iI t), .int (iI u), .int (iI v)]) (st := [.ref (a)]) (c_X1_init hlt (S 3 0) t u v a wu_s hb) si_X3_47 (by decide) rfl (by first | decide | simp [cat_rf, cat_i, cat_l, cat_r]) dX3_tell_95 (by decide) (fun _ _ h => h.elim) ?_
                  rintro v9 w9 ⟨rfl, rfl⟩
                  have hC1 := CW.newI hC hI hn0 hb (tlF n t u v (-1))
                  have hF1 : Fr 0 w (wu w a (cIns (adn ad 1 n a) (nwI S n (tlF n t u v (-1))) n)) := Fr.new hn0
                  refine j_w (w' := wu w a (cIns (adn ad 1 n a) (nwI S n (tlF n t u v (-1))) n)) (by rw [wu_wu, e3]; simp [cIns, nwI, tlF, pt, va_rf]; rfl) ?_
                  generalize (wu w a (cIns (adn ad 1 n a) (nwI S n (tlF n t u v (-1))) n)) = w1 at hC1 hF1 ⊢
                  rw [e3]
                  refine j_astore X (i := 7) dX3_tell_98 (by decide) (q := 100) rfl (lv' := [(7, .ref (a)), (6, .int (iI (n))), (5, va_rf (pt (ad 1) (r))), (0, .ref (ad 0 0)), (1, .int (iI (r))), (2, .int (iI (t))), (3, .int (iI (u))), (4, .int (iI (v)))]) (by first | rfl | simp [cat_rf, cat_i, cat_l, cat_r]) ?_
                  refine j_aload X dX3_tell_100 (q := 102) rfl 0 rfl ?_
                  refine j_aloadq X dX3_tell_102 (q := 104) rfl 2 rfl ?_
                  rw [show (va_rf (pt (ad 1) r)) = va_rf (pt (adn ad 1 n a 1) r) from by rw [pt_adn (by omega)]]
                  refine j_st (st := va_rf (pt (adn ad 1 n a 1) r) :: .ref a :: []) ?_
                  rw [show (Value.ref a : Value) = va_rf (pt (adn ad 1 n a 1) n) from by rw [pt_s (by omega), adn_s]; rfl]
                  refine jp_14 X fp_X3_50 hC1 (by omega) (by omega) dX3_tell_104 (q := 107) rfl (fun w2 hC2 hF2 => ?_)
                  rw [show va_rf (pt (adn ad 1 n a 1) n) = (Value.ref a : Value) from by rw [pt_s (by omega), adn_s]; rfl]
                  refine j_aload_n X dX3_tell_107 (q := 108) rfl 3 rfl ?_
                  refine j_get X (v := .ref (ad 0 1)) fl_X3_11 (a := ad 0 0) hC2.cal rfl dX3_tell_108 (q := 111) rfl ?_
                  refine j_iload X dX3_tell_111 (q := 113) rfl 1 rfl ?_
                  refine j_aload X dX3_tell_113 (q := 115) rfl 0 rfl ?_
                  have e3' : up (nwI S n (tlF n t u v (-1))) 14 n r 3 0 = n := by show nwI S n _ 3 0 = n; unfold nwI; rw [if_neg (by omega)]; exact e3
                  refine ja_3 X (ad := adn ad 1 n a) hC2 e3' (by omega) (by omega) (by omega) adn_s.symm dX3_tell_115 (q := 116) rfl ?_
                  refine j_aload_n X dX3_tell_116 (q := 117) rfl 3 rfl ?_
                  refine j_iload X dX3_tell_117 (q := 119) rfl 1 rfl ?_
                  refine j_iconst X (a := 1) dX3_tell_119 (q := 120) rfl ?_
                  refine j_iadd X dX3_tell_120 (q := 121) rfl ?_
                  refine jb_3 X (ad := adn ad 1 n a) fp_X3_38 hC2 e3' (by omega) dX3_tell_121 (q := 124) rfl (fun w3 hC3 hF3 => ?_)
                  refine j_iload X dX3_tell_124 (q := 126) rfl 1 rfl ?_
                  exact j_iret X rfl dX3_tell_126 (⟨⟨k2, by omega, by omega⟩, rfl, ⟨adn ad 1 n a, hC3, rfl⟩, (hF1.tr hF2).tr hF3⟩) (by decide) (by decide)
                · skip
                  exact j_throw X htab ts_42_44 dX3_tell_75 dX3_tell_78 dX3_tell_79 dX3_tell_81 dX3_tell_84 (by decide) (by decide) (by decide) (by decide) (⟨Or.inr (Or.inr ⟨k2, by omega, by omega, rfl⟩), rfl⟩) (by decide) (by decide)
            · skip
              exact j_throw X htab ts_31_33 dX3_tell_44 dX3_tell_47 dX3_tell_48 dX3_tell_50 dX3_tell_53 (by decide) (by decide) (by decide) (by decide) (⟨Or.inr (Or.inl ⟨k2, by omega, rfl⟩), rfl⟩) (by decide) (by decide)

def meF (m b : Int) : Nat → Int := fun g => if g = 30 then m else if g = 31 then b else 0
def meS (S : St) (nm i : Int) : St := up (up (nwM S nm (meF (S 8 0) (S 15 i))) 4 0 (nm + 1)) 8 0 (S 8 0 + 1)
set_option maxRecDepth 100000 in
set_option maxHeartbeats 4000000 in
theorem c_X3_measure {l : Launch} (hlt : l.stackTraces = false) {D : va_G} {ca : Nat → ClassId} {base : Nat} {ad : Nat → Int → Nat} {n nc nm : Int} {S : St} {w : Wd} (hC : CW base ca ad n nc nm S w) (hI : IC n nc nm S) (z : Int) (hz : -2147483648 ≤ z ∧ z ≤ 2147483647) : CT l D ca base yX3_measure cX3_measure 4 (some .int) 4 3 24 [.ref (ad 0 0), .int (iI (z))] w (fun o w' => ((0 ≤ z ∧ z < n) ∧ fof (S 14) (inF S) 12 z = -1 ∧ nm < 200) ∧ o = some (.int (iI nm)) ∧ (∃ ad', CW base ca ad' n nc (nm + 1) (meS S nm z) w' ∧ ad' 0 0 = ad 0 0) ∧ Fr 0 w w') (fun E w' => ((¬ (0 ≤ z ∧ z < n) ∧ E = nIO) ∨ ((0 ≤ z ∧ z < n) ∧ ¬ (fof (S 14) (inF S) 12 z = -1 ∧ nm < 200) ∧ E = nIS)) ∧ w = w') := by
  obtain ⟨hn, hnc, hnm, e3, e4, e5, h6, h7, h8⟩ := hI.top
  refine CT.mk hlt (by decide +kernel) (by first | exact Nat.le_of_ble_eq_true rfl | simp [lg_sl, cat_rf, cat_i, cat_l, cat_r]) ?_
  intro p e s m args below meth c X htab
  rw [show lv_args 0 [.ref (ad 0 0), .int (iI (z))] = [(0, .ref (ad 0 0)), (1, .int (iI (z)))] from by first | rfl | simp [lv_args, cat_rf, cat_i, cat_l, cat_r]]
  refine j_aload_n X dX3_measure_0 (q := 1) rfl 0 rfl ?_
  refine j_iload_n X dX3_measure_1 (q := 2) rfl 1 rfl ?_
  refine j_callV X (As := [.int (iI (z))]) (st := []) hC.cal rfl (c_X3_known hlt hC hI z hz) sv_X3_54 (by decide) rfl (by first | decide | simp [cat_rf, cat_i, cat_l, cat_r]) dX3_measure_2 (by decide) (fun E w' h => jx_out X htab ⟨Or.inl ⟨h.1, h.2.1⟩, h.2.2⟩ (by decide) (by decide)) ?_
  rintro v9 w9 ⟨k1, rfl, rfl⟩
  refine j_st (st := [va_rf (pt (ad 1) (z))]) ?_
  obtain ⟨f_2_0, f_2_1, f_2_2, f_2_3, f_2_4, f_2_5, f_2_6, f_2_7, f_2_8⟩ := hI.ins k1.1 k1.2
  refine j_astoreq_n X (i := 2) dX3_measure_5 rfl (by decide) (q := 6) rfl (lv' := [(2, va_rf (pt (ad 1) (z))), (0, .ref (ad 0 0)), (1, .int (iI (z)))]) (by first | rfl | simp [cat_rf, cat_i, cat_l, cat_r]) ?_
  refine j_aload_n X dX3_measure_6 (q := 7) rfl 1 rfl ?_
  refine j_get X (v := .int (iI (S 4 0))) fl_X3_113 hC.cal rfl dX3_measure_7 (q := 10) rfl ?_
  refine j_istore_n X (i := 3) dX3_measure_10 rfl (by decide) (q := 11) rfl (lv' := [(3, .int (iI (S 4 0))), (2, va_rf (pt (ad 1) (z))), (0, .ref (ad 0 0)), (1, .int (iI (z)))]) (by first | rfl | simp [cat_rf, cat_i, cat_l, cat_r]) ?_
  refine j_aload_n X dX3_measure_11 (q := 12) rfl 2 rfl ?_
  refine j_aloadq_n X dX3_measure_12 (q := 13) rfl 1 rfl ?_
  have hf9 := fof_r (inF := inF S) (fun i a b => (hI.ins a b).2.2.2.2.1) 12 z (by omega) k1.2 hn.1
  refine j_callV X (As := [va_rf (pt (ad 1) (z))]) (st := []) hC.cal rfl (c_X3_firstOutOfForce hlt hC hI z (by omega)) sv_X3_86 (by decide) rfl (by first | decide | simp [cat_rf, cat_i, cat_l, cat_r]) dX3_measure_13 (by decide) (fun _ _ h => h.elim) ?_
  rintro v9 w9 ⟨rfl, rfl⟩
  refine j_st (st := [va_rf (pt (ad 1) (fof (S 14) (inF S) 12 z))]) ?_
  refine j_ifnonnullp X (tgt := 32) dX3_measure_16 (by decide) (q := 19) rfl (fun c_16 => ?_) (fun c_16 => ?_)
  · skip
    exact j_throw X htab ts_42_116 dX3_measure_32 dX3_measure_35 dX3_measure_36 dX3_measure_38 dX3_measure_41 (by decide) (by decide) (by decide) (by decide) (⟨Or.inr ⟨k1, by omega, rfl⟩, rfl⟩) (by decide) (by decide)
  · skip
    refine j_iload_n X dX3_measure_19 (q := 20) rfl 0 rfl ?_
    refine j_if_lt X (tgt := 32) dX3_measure_20 (by decide) (q := 23) rfl (by omega) (fun c_20 => ?_) (fun c_20 => ?_)
    · skip
      exact j_throw X htab ts_42_116 dX3_measure_32 dX3_measure_35 dX3_measure_36 dX3_measure_38 dX3_measure_41 (by decide) (by decide) (by decide) (by decide) (⟨Or.inr ⟨k1, by omega, rfl⟩, rfl⟩) (by decide) (by decide)
    · skip
      refine j_iload_n X dX3_measure_23 (q := 24) rfl 0 rfl ?_
      refine j_aload_n X dX3_measure_24 (q := 25) rfl 2 rfl ?_
      refine j_get X (v := .ref (ad 0 2)) fl_X3_17 hC.cal rfl dX3_measure_25 (q := 28) rfl ?_
      refine j_alen X (t := 3) (N := 200) rfl hC.made rfl dX3_measure_28 (q := 29) rfl ?_
      refine j_icmp_lt X (tgt := 42) dX3_measure_29 (by decide) (q := 32) rfl (by omega) (by omega) (fun c_29 => ?_) (fun c_29 => ?_)
      · skip
        refine j_aload_n X dX3_measure_42 (q := 43) rfl 2 rfl ?_
        refine j_get X (v := .ref (ad 0 2)) fl_X3_17 hC.cal rfl dX3_measure_43 (q := 46) rfl ?_
        refine j_iload_n X dX3_measure_46 (q := 47) rfl 0 rfl ?_
        have en : S 4 0 = nm := e4
        refine j_new X nw_X3_15 (by decide) (by decide) dX3_measure_47 (q := 50) rfl (fun a hb hn0 => ?_)
        have hF0 : Fr 0 w (wu w a (.inr (2, [.int 0, .null, .int 0]))) := Fr.new hn0
        have hw0 : wu w a (.inr (2, [.int 0, .null, .int 0])) a = some _ := wu_s
        have hca : wu w a (.inr (2, [.int 0, .null, .int 0])) (ad 0 0) = some (cCal ad S 0) := (wu_n (fun z => by rw [← z, hC.cal] at hn0; cases hn0)).trans hC.cal
        have hci : wu w a (.inr (2, [.int 0, .null, .int 0])) (ad 1 z) = some (cIns ad S z) := (wu_n (fun q => by rw [← q, hC.ins k1.1 k1.2] at hn0; cases hn0)).trans (hC.ins k1.1 k1.2)
        refine j_dup X (by first | rfl | exact cat_rf _) dX3_measure_50 (q := 51) rfl ?_
        refine j_aload_n X dX3_measure_51 (q := 52) rfl 2 rfl ?_
        refine j_get X (v := .int (iI (S 8 0))) fl_X3_99 hca rfl dX3_measure_52 (q := 55) rfl ?_
        refine j_aloadq_n X dX3_measure_55 (q := 56) rfl 1 rfl ?_
        refine j_getp X (v := va_rf (pt (ad 2) (S 15 z))) fl_X3_95 k1.1 hci rfl dX3_measure_56 (q := 59) rfl ?_
        refine j_callI X (As := [.int (iI (S 8 0)), va_rf (pt (ad 2) (S 15 z))]) (st := [.ref (a), .int (iI (S 4 0)), .ref (ad 0 2)]) (c_X2_init hlt (S 8 0) (pt (ad 2) (S 15 z)) a wu_s hb) si_X3_118 (by decide) rfl (by first | decide | simp [cat_rf, cat_i, cat_l, cat_r]) dX3_measure_59 (by decide) (fun _ _ h => h.elim) ?_
        rintro v9 w9 ⟨rfl, rfl⟩
        have hC1 := CW.newM hC hI hn0 hb (meF (S 8 0) (S 15 z))
        have hF1 : Fr 0 w (wu w a (cMea (adn ad 3 nm a) (nwM S nm (meF (S 8 0) (S 15 z))) nm)) := Fr.new hn0
        refine j_w (w' := wu w a (cMea (adn ad 3 nm a) (nwM S nm (meF (S 8 0) (S 15 z))) nm)) (by rw [wu_wu]; simp [cMea, nwM, meF, adn]; first | rfl | done) ?_
        generalize (wu w a (cMea (adn ad 3 nm a) (nwM S nm (meF (S 8 0) (S 15 z))) nm)) = w1 at hC1 hF1 ⊢
        rw [e4]
        have e4m : nwM S nm (meF (S 8 0) (S 15 z)) 4 0 = nm := by unfold nwM; rw [if_neg (by omega)]; exact e4
        refine ja_4 X (ad := adn ad 3 nm a) hC1 e4m (by omega) (by omega) (by omega) adn_s.symm dX3_measure_62 (q := 63) rfl ?_
        refine j_aload_n X dX3_measure_63 (q := 64) rfl 2 rfl ?_
        refine j_iload_n X dX3_measure_64 (q := 65) rfl 0 rfl ?_
        refine j_iconst X (a := 1) dX3_measure_65 (q := 66) rfl ?_
        refine j_iadd X dX3_measure_66 (q := 67) rfl ?_
        refine jb_4 X (ad := adn ad 3 nm a) fp_X3_113 hC1 e4m (by omega) dX3_measure_67 (q := 70) rfl (fun w3 hC3 hF3 => ?_)
        refine j_aload_n X dX3_measure_70 (q := 71) rfl 2 rfl ?_
        refine j_dup X (by first | rfl | exact cat_rf _) dX3_measure_71 (q := 72) rfl ?_
        have e8m : up (nwM S nm (meF (S 8 0) (S 15 z))) 4 0 (nm + 1) 8 0 = S 8 0 := by show nwM S nm _ 8 0 = S 8 0; unfold nwM; rw [if_neg (by omega)]
        refine j_get X (v := .int (iI (S 8 0))) fl_X3_99 (a := ad 0 0) hC3.cal (by show some (Value.int (iI (up (nwM S nm (meF (S 8 0) (S 15 z))) 4 0 (nm + 1) 8 0))) = _; rw [e8m]) dX3_measure_72 (q := 75) rfl ?_
        refine j_iconst X (a := 1) dX3_measure_75 (q := 76) rfl ?_
        refine j_iadd X dX3_measure_76 (q := 77) rfl ?_
        refine jp_8 X fp_X3_99 (ad := adn ad 3 nm a) hC3 dX3_measure_77 (q := 80) rfl (fun w4 hC4 hF4 => ?_)
        refine j_iload_n X dX3_measure_80 (q := 81) rfl 0 rfl ?_
        exact j_iret X rfl dX3_measure_81 (⟨⟨k1, by omega, by omega⟩, rfl, ⟨adn ad 3 nm a, hC4, rfl⟩, (hF1.tr hF3).tr hF4⟩) (by decide) (by decide)
      · skip
        exact j_throw X htab ts_42_116 dX3_measure_32 dX3_measure_35 dX3_measure_36 dX3_measure_38 dX3_measure_41 (by decide) (by decide) (by decide) (by decide) (⟨Or.inr ⟨k1, by omega, rfl⟩, rfl⟩) (by decide) (by decide)
end
