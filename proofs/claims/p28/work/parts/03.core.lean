/-! ===== THE CORE: a world is a function from addresses to cells; J says that a place in a method is good ===== -/
def BG : List Cond := lw_tbl.filter goodWord
theorem BG_in {w : Cond} (h : w ∈ lw_tbl) (g : goodWord w = true) : w ∈ BG := List.mem_filter.mpr ⟨h, g⟩
theorem BG_t {w : Cond} (h : w ∈ tables_1) (g : goodWord w = true) : w ∈ BG := BG_in (List.mem_append_right _ h) g
theorem BG_ok {Ts : List Cond} (h : ∀ w ∈ BG, w ∈ Ts) : GoodIn Ts BG := fun w hw => ⟨h w hw, good_of_word (List.mem_filter.mp hw).2⟩
abbrev iI (z : Int) : Int32 := Int32.ofInt z
abbrev iL (z : Int) : Int64 := Int64.ofInt z
abbrev Wd : Type := Nat → Option va_E
def wu (w : Wd) (a : Nat) (e : va_E) : Wd := fun q => if q = a then some e else w q
theorem wu_s {w : Wd} {a : Nat} {e : va_E} : wu w a e a = some e := by simp [wu]
theorem wu_n {w : Wd} {a q : Nat} {e : va_E} (h : q ≠ a) : wu w a e q = w q := by simp [wu, h]
def HP (D : va_G) (w : Wd) (H : Heap) : Prop := ∀ (a : Nat) (e : va_E), w a = some e → va_at D vwCl (a, e) H
theorem HP.lt {D : va_G} {w : Wd} {H : Heap} (h : HP D w H) {a : Nat} {e : va_E} (ha : w a = some e) : a < H.size := (h a e ha).lt
theorem HP.fresh {D : va_G} {w : Wd} {H : Heap} (h : HP D w H) : w H.size = none := by
  cases hq : w H.size with
  | none => rfl
  | some e => exact absurd (h.lt hq) (Nat.lt_irrefl _)
theorem HP.kept {D : va_G} {w : Wd} {H H1 : Heap} (h : HP D w H) (hq : ∀ q : Nat, q < H.size → H1[q]? = H[q]?) : HP D w H1 := fun a e ha => (h a e ha).kept (hq a (h.lt ha))
theorem HP.set {D : va_G} {w : Wd} {H H1 : Heap} {a : Nat} {e : va_E} (h : HP D w H) (he : va_at D vwCl (a, e) H1) (oq : ∀ q : Nat, q ≠ a → H1[q]? = H[q]?) : HP D (wu w a e) H1 := by
  intro q e1 hq
  by_cases hqa : q = a
  · subst hqa
    rw [wu_s] at hq
    cases hq
    exact he
  · rw [wu_n hqa] at hq
    exact (h q e1 hq).kept (oq q hqa)
theorem HP.push {D : va_G} {w : Wd} {H H1 : Heap} {e : va_E} (h : HP D w H) (he : va_at D vwCl (H.size, e) H1) (oq : ∀ q : Nat, q < H.size → H1[q]? = H[q]?) : HP D (wu w H.size e) H1 := by
  intro q e1 hq
  by_cases hqa : q = H.size
  · subst hqa
    rw [wu_s] at hq
    cases hq
    exact he
  · rw [wu_n hqa] at hq
    exact (h q e1 hq).kept (oq q (h.lt hq))
/-- one cell of a world, as the kit's rows read it -/
theorem HP.one {D : va_G} {w : Wd} {H : Heap} (h : HP D w H) {a : Nat} {e : va_E} (ha : w a = some e) : va_P D vwCl [(a, e)] H := by
  intro k q hk
  match k, hk with
  | 0, hk => cases hk; exact h a e ha
  | k + 1, hk => simp at hk
def tysOf (ca : Nat → ClassId) : List (ClassId × FieldType) := [(ca 0, .int), (ca 1, .int), (ca 2, .object "Calibratory$Instrument"), (ca 3, .object "Calibratory$Measurement"), (ca 4, .object "Calibratory$Calibration")]
def jStrs : List (String × Nat × String) := [("Calibratory", 67, "days out of range"), ("Calibratory", 90, "its reference is not trusted"), ("Calibratory", 116, "it is not trusted, or no more measurements"), ("Calibratory", 219, "no such measurement"), ("Calibratory", 84, "found or left out of range"), ("Calibratory", 247, "each out of range"), ("Calibratory", 33, "tolerance, uncertainty or interval out of range"), ("Calibratory", 44, "no more instruments"), ("Calibratory", 74, "no such instrument"), ("Calibratory", 193, "it is not calibrated"), ("Calibratory", 61, "an instrument would be its own reference")]
abbrev nIO : String := "java/lang/IndexOutOfBoundsException"
abbrev nIA : String := "java/lang/IllegalArgumentException"
abbrev nIS : String := "java/lang/IllegalStateException"
def jYes : List (String × String) := [(nIO, nIO), (nIA, nIA), (nIS, nIS)]
def jNo : List (String × String) := []
def jDecl : List MethodName := [Bundle.initS "java/lang/RuntimeException", Bundle.initS "java/lang/Exception", Bundle.initS "java/lang/Throwable"]
def jAO : List String := ["Calibratory$Instrument", "Calibratory$Measurement", "Calibratory$Calibration"]
/-- what holds of every start of a method: the classes, the arrays' classes, what a throw needs, the law's own cells lie from base on -/
def GI (D : va_G) (ca : Nat → ClassId) (base : Nat) (U : State) (H : Heap) : Prop :=
  va_K D vwCl (tysOf ca) U ∧ base ≤ H.size ∧ vx_Zq Bundle.tN "UNASSIGNED_STACK" Bundle.steD (fun q => base ≤ q) U H ∧ vx_Zq Bundle.tN "SUPPRESSED_SENTINEL" Bundle.listD (fun q => base ≤ q) U H ∧
  (∀ q ∈ jStrs, ∃ a : Nat, vk_R q.1 q.2.1 q.2.2 a U) ∧ (∀ q ∈ jYes, va_Nw (.castable q.1 q.2) U) ∧ (∀ q ∈ jNo, va_Nc q.1 q.2 U) ∧ (∀ C ∈ jAO, va_AO C U) ∧ ∀ z ∈ jDecl, va_Nw (.declares z) U
theorem GI.warm {D : va_G} {ca : Nat → ClassId} {base : Nat} {s U : State} {H : Heap} (hW : s.WarmedH U.vm) (h : GI D ca base s H) : GI D ca base U H := by
  obtain ⟨h1, h2, h3, h4, h5, h6, h7, h8, h9⟩ := h
  exact ⟨va_K.moved hW.alike h1, h2, h3.moved hW.alike, h4.moved hW.alike, fun q hq => (h5 q hq).imp fun a ha => vk_R.warm hW ha, fun q hq => va_Nw.warmC hW (h6 q hq), fun q hq => (h7 q hq).moved hW.alike, fun C hC => (h8 C hC).moved hW.alike, fun z hz => va_Nw.warmD hW (h9 z hz)⟩
theorem GI.same {D : va_G} {ca : Nat → ClassId} {base : Nat} {s U : State} {H : Heap} (hv : U.vm = s.vm) (h : GI D ca base s H) : GI D ca base U H := by
  have hA : s.vm.Alike U.vm := by rw [hv]; exact Vm.Alike.refl s.vm
  obtain ⟨h1, h2, h3, h4, h5, h6, h7, h8, h9⟩ := h
  exact ⟨va_K.moved hA h1, h2, h3.moved hA, h4.moved hA, fun q hq => (h5 q hq).imp fun a ha => vk_R.same hv ha, fun q hq => va_Nw.same rfl hv.symm (h6 q hq), fun q hq => (h7 q hq).moved hA, fun C hC => (h8 C hC).moved hA, fun z hz => va_Nw.same rfl hv.symm (h9 z hz)⟩
theorem GI.kept {D : va_G} {ca : Nat → ClassId} {base : Nat} {s : State} {H H1 : Heap} (h : GI D ca base s H) (hz : H.size ≤ H1.size) (hq : ∀ q : Nat, q < H.size → ¬ base ≤ q → H1[q]? = H[q]?) : GI D ca base s H1 := by
  obtain ⟨h1, h2, h3, h4, h5⟩ := h
  exact ⟨h1, Nat.le_trans h2 hz, h3.kept hq, h4.kept hq, h5⟩
/-- a method's contract: it returns v with the world w' behind it as post says, or throws E as px says -/
def Qn (D : va_G) (base : Nat) (post : Option Value → Wd → Prop) : Array Value → State → Outcome → State → Prop := fun _ st o t => ∃ (v : Option Value) (w' : Wd), o = .returned v ∧ post v w' ∧ HP D w' t.heap ∧ va_F (fun q => base ≤ q) st t
def Xn (D : va_G) (base : Nat) (px : String → Wd → Prop) : String → State → State → Prop := fun E st t => ∃ w' : Wd, px E w' ∧ HP D w' t.heap ∧ va_F (fun q => base ≤ q) st t
def Rm (d mc ms : Nat) : Room := { frames := 8 * d + 8, cells := mc, slots := ms, locals := 120 * d + 200 }
def CT (l : Launch) (D : va_G) (ca : Nat → ClassId) (base : Nat) (y : MethodName) (b : ByteArray) (maxL : Nat) (ret : Option FieldType) (d mc ms : Nat) (av : List Value) (w : Wd) (post : Option Value → Wd → Prop) (px : String → Wd → Prop) : Prop :=
  vx_Met l y (.code y b maxL ret :: BG) (Rm d mc ms) (va_Pc av (fun U => GI D ca base U U.heap ∧ HP D w U.heap)) (Qn D base post) (Xn D base px) mc ms (fun q => base ≤ q)
def Cx (p : Program) (l : Launch) (s : State) (m : MethodId) (args : Array Value) (meth : Method) (c : Code) (y : MethodName) (cc : ByteArray) (nL : Nat) (ret : Option FieldType) (D : va_G) (ca : Nat → ClassId) (base : Nat) : Prop :=
  p.tables.exec = Jvm.exec ∧ c.code = cc ∧ c.maxLocals = nL ∧ s.vm.findClass y.cls = some m.cls ∧ (∀ w ∈ BG, w.before args s = true) ∧ GI D ca base s s.heap ∧ meth.locks = false ∧ l.stackTraces = false ∧ meth.sig.returnType = ret ∧ meth.name = y.name
def J (p : Program) (l : Launch) (e : Env) (R : Room) (s : State) (m : MethodId) (args : Array Value) (below : List Frame) (meth : Method) (c : Code) (Q : State → Prop) (D : va_G) (base nL k n pc : Nat) (lv : List (Nat × Value)) (st : List Value) (w : Wd) : Prop :=
  ∀ (ls : Array Slot) (H : Heap) (locs : List Loc), lv_has ls nL lv → HP D w H → va_S (fun q => base ≤ q) s.heap H locs → W p l e R s m args below meth c H locs k n Q (F0 m pc ls st)
/-- the same with an exception of the class E thrown over the frame -/
def JX (p : Program) (l : Launch) (e : Env) (R : Room) (s : State) (m : MethodId) (args : Array Value) (below : List Frame) (meth : Method) (c : Code) (Q : State → Prop) (D : va_G) (base nL k n pc : Nat) (lv : List (Nat × Value)) (st : List Value) (w : Wd) (E : String) : Prop :=
  ∀ (ls : Array Slot) (H : Heap) (locs : List Loc) (q : Addr) (ce : Cell), lv_has ls nL lv → HP D w H → va_S (fun q => base ≤ q) s.heap H locs → H[q]? = some ce → ce.vm = .none → s.vm.findClass E = some ce.cls → vx_W p l e R s m args below meth c H locs k n Q (F0 m pc ls st) q
/-- where a call goes: the words of its link -/
def SV (own C : String) (idx : Nat) (y : MethodName) (b : ByteArray) (maxL : Nat) (ret : Option FieldType) (n : Nat) : Prop :=
  Cond.methodLink own idx y ∈ BG ∧ Cond.instanceMethod y ∈ BG ∧ Cond.selects C y y ∈ BG ∧ Cond.initialized y.cls ∈ BG ∧ Cond.code y b maxL ret ∈ BG ∧ (y.cls ≠ "java/lang/invoke/MethodHandle" ∧ y.cls ≠ "java/lang/invoke/VarHandle") ∧ (parseMethodDescriptor y.desc).map (fun d => d.parameters.length) = some n
def SS (own : String) (idx : Nat) (y : MethodName) (b : ByteArray) (maxL : Nat) (ret : Option FieldType) (n : Nat) : Prop :=
  Cond.methodLink own idx y ∈ BG ∧ Cond.static y ∈ BG ∧ Cond.initialized y.cls ∈ BG ∧ Cond.code y b maxL ret ∈ BG ∧ (y.cls ≠ "java/lang/invoke/MethodHandle" ∧ y.cls ≠ "java/lang/invoke/VarHandle") ∧ (parseMethodDescriptor y.desc).map (fun d => d.parameters.length) = some n
def SI (own : String) (idx : Nat) (y : MethodName) (b : ByteArray) (maxL : Nat) (n : Nat) : Prop :=
  Cond.methodLink own idx y ∈ BG ∧ Cond.instanceMethod y ∈ BG ∧ Cond.initialized y.cls ∈ BG ∧ Cond.code y b maxL none ∈ BG ∧ y.name = "<init>" ∧ (y.cls ≠ "java/lang/invoke/MethodHandle" ∧ y.cls ≠ "java/lang/invoke/VarHandle") ∧ (parseMethodDescriptor y.desc).map (fun d => d.parameters.length) = some n
/-- a field by its link: class ci of vwCl, its k-th field -/
def FL (own : String) (idx ci k : Nat) : Prop := ∃ (C : String) (T : u_T) (N : Nat), vwCl[ci]? = some (C, T, N) ∧ k < N ∧ Cond.fieldLink own idx C (T k).2.1 (T k).2.2.1 ∈ BG ∧ (T k).1 = C ∧ ∀ w ∈ u_ws C T N, w ∈ BG
def FP (own : String) (idx ci k : Nat) (ty : FieldType) (fin : Bool) : Prop := ∃ (C : String) (T : u_T) (N : Nat) (ty0 : Nat → FieldType), vwCl[ci]? = some (C, T, N) ∧ k < N ∧ Cond.fieldLink own idx C (T k).2.1 (T k).2.2.1 ∈ BG ∧ (T k).1 = C ∧ (∀ w ∈ u_ws C T N, w ∈ BG) ∧ (∀ j, j < N → parseFieldDescriptor (T j).2.2.1 = some (ty0 j)) ∧ (∀ a, a < N → ∀ b, b < N → a ≠ b → (T a).2.1 ≠ (T b).2.1) ∧ (T k).2.2.2 = fin ∧ parseFieldDescriptor (T k).2.2.1 = some ty
/-- a class that is made: class ci of vwCl with the values of a new object -/
def NW (own : String) (idx ci N : Nat) (fs : List Value) : Prop := ∃ (C : String) (T : u_T) (ty0 : Nat → FieldType), vwCl[ci]? = some (C, T, N) ∧ (∀ w ∈ u_ws C T N, w ∈ BG) ∧ (∀ j, j < N → parseFieldDescriptor (T j).2.2.1 = some (ty0 j)) ∧ Cond.classLink own idx C ∈ BG ∧ Cond.instantiable C N ∈ BG ∧ Cond.initialized C ∈ BG ∧ ∀ j, j < N → defaultValue (ty0 j) = vp_V fs j
def TS (own : String) (ik is ic : Nat) (cls text : String) (names : List String) : Prop := Bundle.fit cls = true ∧ (∀ n ∈ names, Bundle.fit n = true) ∧ Cond.classLink own ik cls ∈ BG ∧ Cond.initialized cls ∈ BG ∧ (own, is, text) ∈ jStrs ∧ (cls, cls) ∈ jYes ∧ (∀ w ∈ (vx_atS own ic cls names).filter goodWord, w ∈ BG) ∧ (∀ w ∈ (vx_atS own ic cls names).filter (fun w => !goodWord w), w ∈ Cond.castable cls cls :: jDecl.map Cond.declares) ∧ (∀ w ∈ Cond.classLink own ik cls :: Cond.initialized cls :: vx_atS own ic cls names, vx_ot w = true)
section JROWS
variable {p : Program} {l : Launch} {e : Env} {R : Room} {s : State} {m : MethodId} {args : Array Value} {below : List Frame} {meth : Method} {c : Code} {Q : State → Prop} {D : va_G} {ca : Nat → ClassId} {base nL k n pc q : Nat} {lv lv' : List (Nat × Value)} {st : List Value} {w : Wd} {y : MethodName} {cc : ByteArray} {ret : Option FieldType}
theorem j_widen {k' n' : Nat} (h1 : k ≤ k') (h2 : n ≤ n') (kk : J p l e R s m args below meth c Q D base nL k' n' pc lv st w) : J p l e R s m args below meth c Q D base nL k n pc lv st w :=
  fun ls H locs hl hP hS => W.widen h1 h2 (kk ls H locs hl hP hS)
theorem j_lv (kk : J p l e R s m args below meth c Q D base nL k n pc lv' st w) (ks : List Nat) (h : lv_pick lv ks = lv') : J p l e R s m args below meth c Q D base nL k n pc lv st w :=
  fun ls H locs hl hP hS => kk ls H locs (lv_sub hl ks h) hP hS
theorem j_iload_n (X : Cx p l s m args meth c y cc nL ret D ca base) {i : Fin 4} {x : Int32} (d : decode cc pc = .ok (.iload_n i, 1)) (hq : pc + 1 = q) (j : Nat) (hj : lv[j]? = some ((i : Nat), .int x)) (kk : J p l e R s m args below meth c Q D base nL k n q lv (.int x :: st) w) : J p l e R s m args below meth c Q D base nL k n pc lv st w := by
  subst hq
  intro ls H locs hl hP hS
  exact lv_iload_n X.1 X.2.1 d rfl (lv_at hl j hj) (kk ls H locs hl hP hS)
theorem j_iload (X : Cx p l s m args meth c y cc nL ret D ca base) {i : Nat} {x : Int32} (d : decode cc pc = .ok (.iload i, 2)) (hq : pc + 2 = q) (j : Nat) (hj : lv[j]? = some (i, .int x)) (kk : J p l e R s m args below meth c Q D base nL k n q lv (.int x :: st) w) : J p l e R s m args below meth c Q D base nL k n pc lv st w := by
  subst hq
  intro ls H locs hl hP hS
  exact lv_iload X.1 X.2.1 d (lv_at hl j hj) (kk ls H locs hl hP hS)
theorem j_lload_n (X : Cx p l s m args meth c y cc nL ret D ca base) {i : Fin 4} {x : Int64} (d : decode cc pc = .ok (.lload_n i, 1)) (hq : pc + 1 = q) (j : Nat) (hj : lv[j]? = some ((i : Nat), .long x)) (kk : J p l e R s m args below meth c Q D base nL k n q lv (.long x :: st) w) : J p l e R s m args below meth c Q D base nL k n pc lv st w := by
  subst hq
  intro ls H locs hl hP hS
  exact lv_lload_n X.1 X.2.1 d rfl (lv_at hl j hj) (kk ls H locs hl hP hS)
theorem j_lload (X : Cx p l s m args meth c y cc nL ret D ca base) {i : Nat} {x : Int64} (d : decode cc pc = .ok (.lload i, 2)) (hq : pc + 2 = q) (j : Nat) (hj : lv[j]? = some (i, .long x)) (kk : J p l e R s m args below meth c Q D base nL k n q lv (.long x :: st) w) : J p l e R s m args below meth c Q D base nL k n pc lv st w := by
  subst hq
  intro ls H locs hl hP hS
  exact lv_lload X.1 X.2.1 d (lv_at hl j hj) (kk ls H locs hl hP hS)
theorem j_aload_n (X : Cx p l s m args meth c y cc nL ret D ca base) {i : Fin 4} {x : Nat} (d : decode cc pc = .ok (.aload_n i, 1)) (hq : pc + 1 = q) (j : Nat) (hj : lv[j]? = some ((i : Nat), .ref x)) (kk : J p l e R s m args below meth c Q D base nL k n q lv (.ref x :: st) w) : J p l e R s m args below meth c Q D base nL k n pc lv st w := by
  subst hq
  intro ls H locs hl hP hS
  exact lv_aload_n X.1 X.2.1 d rfl (lv_at hl j hj) (kk ls H locs hl hP hS)
theorem j_aload (X : Cx p l s m args meth c y cc nL ret D ca base) {i : Nat} {x : Nat} (d : decode cc pc = .ok (.aload i, 2)) (hq : pc + 2 = q) (j : Nat) (hj : lv[j]? = some (i, .ref x)) (kk : J p l e R s m args below meth c Q D base nL k n q lv (.ref x :: st) w) : J p l e R s m args below meth c Q D base nL k n pc lv st w := by
  subst hq
  intro ls H locs hl hP hS
  exact lv_aload X.1 X.2.1 d (lv_at hl j hj) (kk ls H locs hl hP hS)
theorem j_dload (X : Cx p l s m args meth c y cc nL ret D ca base) {i : Nat} {x : UInt64} (d : decode cc pc = .ok (.dload i, 2)) (hq : pc + 2 = q) (j : Nat) (hj : lv[j]? = some (i, .double x)) (kk : J p l e R s m args below meth c Q D base nL k n q lv (.double x :: st) w) : J p l e R s m args below meth c Q D base nL k n pc lv st w := by
  subst hq
  intro ls H locs hl hP hS
  exact lv_dload X.1 X.2.1 d (lv_at hl j hj) (kk ls H locs hl hP hS)
theorem j_aloadq_n (X : Cx p l s m args meth c y cc nL ret D ca base) {i : Fin 4} {r : Option Nat} (d : decode cc pc = .ok (.aload_n i, 1)) (hq : pc + 1 = q) (j : Nat) (hj : lv[j]? = some ((i : Nat), va_rf r)) (kk : J p l e R s m args below meth c Q D base nL k n q lv (va_rf r :: st) w) : J p l e R s m args below meth c Q D base nL k n pc lv st w := by
  subst hq
  intro ls H locs hl hP hS
  have h1 := lv_at hl j hj
  cases r with
  | none => exact lv_aload_nN X.1 X.2.1 d rfl h1 (kk ls H locs hl hP hS)
  | some a => exact lv_aload_n X.1 X.2.1 d rfl h1 (kk ls H locs hl hP hS)
theorem j_aloadq (X : Cx p l s m args meth c y cc nL ret D ca base) {i : Nat} {r : Option Nat} (d : decode cc pc = .ok (.aload i, 2)) (hq : pc + 2 = q) (j : Nat) (hj : lv[j]? = some (i, va_rf r)) (kk : J p l e R s m args below meth c Q D base nL k n q lv (va_rf r :: st) w) : J p l e R s m args below meth c Q D base nL k n pc lv st w := by
  subst hq
  intro ls H locs hl hP hS
  have h1 := lv_at hl j hj
  cases r with
  | none => exact lv_aloadN X.1 X.2.1 d h1 (kk ls H locs hl hP hS)
  | some a => exact lv_aload X.1 X.2.1 d h1 (kk ls H locs hl hP hS)
theorem j_istore_n (X : Cx p l s m args meth c y cc nL ret D ca base) {f : Fin 4} {i : Nat} {x : Int32} (d : decode cc pc = .ok (.istore_n f, 1)) (hi : (f : Nat) = i) (hn : i < nL) (hq : pc + 1 = q) (hl' : (i, Value.int x) :: lv.filter (fun q => !(q.1 == i) && !(q.1 + 1 == i && q.2.category == 2)) = lv') (kk : J p l e R s m args below meth c Q D base nL k n q lv' st w) : J p l e R s m args below meth c Q D base nL k n pc lv (.int x :: st) w := by
  subst hq
  intro ls H locs hl hP hS
  exact lv_istore_n X.1 X.2.1 d hi hl hn hl' (fun ls hl => (kk ls H locs hl hP hS))
theorem j_istore (X : Cx p l s m args meth c y cc nL ret D ca base) {i : Nat} {x : Int32} (d : decode cc pc = .ok (.istore i, 2)) (hn : i < nL) (hq : pc + 2 = q) (hl' : (i, Value.int x) :: lv.filter (fun q => !(q.1 == i) && !(q.1 + 1 == i && q.2.category == 2)) = lv') (kk : J p l e R s m args below meth c Q D base nL k n q lv' st w) : J p l e R s m args below meth c Q D base nL k n pc lv (.int x :: st) w := by
  subst hq
  intro ls H locs hl hP hS
  exact lv_istore X.1 X.2.1 d hl hn hl' (fun ls hl => (kk ls H locs hl hP hS))
theorem j_astore_n (X : Cx p l s m args meth c y cc nL ret D ca base) {f : Fin 4} {i : Nat} {x : Nat} (d : decode cc pc = .ok (.astore_n f, 1)) (hi : (f : Nat) = i) (hn : i < nL) (hq : pc + 1 = q) (hl' : (i, Value.ref x) :: lv.filter (fun q => !(q.1 == i) && !(q.1 + 1 == i && q.2.category == 2)) = lv') (kk : J p l e R s m args below meth c Q D base nL k n q lv' st w) : J p l e R s m args below meth c Q D base nL k n pc lv (.ref x :: st) w := by
  subst hq
  intro ls H locs hl hP hS
  exact lv_astore_n X.1 X.2.1 d hi hl hn hl' (fun ls hl => (kk ls H locs hl hP hS))
theorem j_astore (X : Cx p l s m args meth c y cc nL ret D ca base) {i : Nat} {x : Nat} (d : decode cc pc = .ok (.astore i, 2)) (hn : i < nL) (hq : pc + 2 = q) (hl' : (i, Value.ref x) :: lv.filter (fun q => !(q.1 == i) && !(q.1 + 1 == i && q.2.category == 2)) = lv') (kk : J p l e R s m args below meth c Q D base nL k n q lv' st w) : J p l e R s m args below meth c Q D base nL k n pc lv (.ref x :: st) w := by
  subst hq
  intro ls H locs hl hP hS
  exact lv_astore X.1 X.2.1 d hl hn hl' (fun ls hl => (kk ls H locs hl hP hS))
theorem j_lstore_n (X : Cx p l s m args meth c y cc nL ret D ca base) {f : Fin 4} {i : Nat} {x : Int64} (d : decode cc pc = .ok (.lstore_n f, 1)) (hi : (f : Nat) = i) (hn : i + 1 < nL) (hq : pc + 1 = q) (hl' : (i, Value.long x) :: lv.filter (fun q => !(q.1 == i) && (!(q.1 == i + 1) && !(q.1 + 1 == i && q.2.category == 2))) = lv') (kk : J p l e R s m args below meth c Q D base nL k n q lv' st w) : J p l e R s m args below meth c Q D base nL k n pc lv (.long x :: st) w := by
  subst hq
  intro ls H locs hl hP hS
  exact lv_lstore_n X.1 X.2.1 d hi hl hn hl' (fun ls hl => (kk ls H locs hl hP hS))
theorem j_lstore (X : Cx p l s m args meth c y cc nL ret D ca base) {i : Nat} {x : Int64} (d : decode cc pc = .ok (.lstore i, 2)) (hn : i + 1 < nL) (hq : pc + 2 = q) (hl' : (i, Value.long x) :: lv.filter (fun q => !(q.1 == i) && (!(q.1 == i + 1) && !(q.1 + 1 == i && q.2.category == 2))) = lv') (kk : J p l e R s m args below meth c Q D base nL k n q lv' st w) : J p l e R s m args below meth c Q D base nL k n pc lv (.long x :: st) w := by
  subst hq
  intro ls H locs hl hP hS
  exact lv_lstore X.1 X.2.1 d hl hn hl' (fun ls hl => (kk ls H locs hl hP hS))
theorem j_dstore (X : Cx p l s m args meth c y cc nL ret D ca base) {i : Nat} {x : UInt64} (d : decode cc pc = .ok (.dstore i, 2)) (hn : i + 1 < nL) (hq : pc + 2 = q) (hl' : (i, Value.double x) :: lv.filter (fun q => !(q.1 == i) && (!(q.1 == i + 1) && !(q.1 + 1 == i && q.2.category == 2))) = lv') (kk : J p l e R s m args below meth c Q D base nL k n q lv' st w) : J p l e R s m args below meth c Q D base nL k n pc lv (.double x :: st) w := by
  subst hq
  intro ls H locs hl hP hS
  exact lv_dstore X.1 X.2.1 d hl hn hl' (fun ls hl => (kk ls H locs hl hP hS))
theorem j_astoreq_n (X : Cx p l s m args meth c y cc nL ret D ca base) {f : Fin 4} {i : Nat} {r : Option Nat} (d : decode cc pc = .ok (.astore_n f, 1)) (hi : (f : Nat) = i) (hn : i < nL) (hq : pc + 1 = q) (hl' : (i, va_rf r) :: lv.filter (fun q => !(q.1 == i) && !(q.1 + 1 == i && q.2.category == 2)) = lv') (kk : J p l e R s m args below meth c Q D base nL k n q lv' st w) : J p l e R s m args below meth c Q D base nL k n pc lv (va_rf r :: st) w := by
  subst hq
  intro ls H locs hl hP hS
  cases r with
  | none => exact lv_astore_nN X.1 X.2.1 d hi hl hn hl' (fun ls hl => (kk ls H locs hl hP hS))
  | some a => exact lv_astore_n X.1 X.2.1 d hi hl hn hl' (fun ls hl => (kk ls H locs hl hP hS))
theorem j_astoreq (X : Cx p l s m args meth c y cc nL ret D ca base) {i : Nat} {r : Option Nat} (d : decode cc pc = .ok (.astore i, 2)) (hn : i < nL) (hq : pc + 2 = q) (hl' : (i, va_rf r) :: lv.filter (fun q => !(q.1 == i) && !(q.1 + 1 == i && q.2.category == 2)) = lv') (kk : J p l e R s m args below meth c Q D base nL k n q lv' st w) : J p l e R s m args below meth c Q D base nL k n pc lv (va_rf r :: st) w := by
  subst hq
  intro ls H locs hl hP hS
  cases r with
  | none => exact lv_astoreN X.1 X.2.1 d hl hn hl' (fun ls hl => (kk ls H locs hl hP hS))
  | some a => exact lv_astore X.1 X.2.1 d hl hn hl' (fun ls hl => (kk ls H locs hl hP hS))
theorem j_iinc (X : Cx p l s m args meth c y cc nL ret D ca base) {i : Nat} {a : Int} {z : Int} (d : decode cc pc = .ok (.iinc i a, 3)) (j : Nat) (hj : lv[j]? = some (i, .int (iI z))) (hn : i < nL) (hq : pc + 3 = q) (hl' : (i, Value.int (iI (z + a))) :: lv.filter (fun q => !(q.1 == i) && !(q.1 + 1 == i && q.2.category == 2)) = lv') (kk : J p l e R s m args below meth c Q D base nL k n q lv' st w) : J p l e R s m args below meth c Q D base nL k n pc lv st w := by
  subst hq
  intro ls H locs hl hP hS
  exact lv_iinc X.1 X.2.1 d hl (k := j) hj (Int32.ofInt_add z a).symm hn hl' (fun ls hl => (kk ls H locs hl hP hS))
theorem j_iconst (X : Cx p l s m args meth c y cc nL ret D ca base) {a : Int} (d : decode cc pc = .ok (.iconst a, 1)) (hq : pc + 1 = q) (kk : J p l e R s m args below meth c Q D base nL k n q lv (.int (iI a) :: st) w) : J p l e R s m args below meth c Q D base nL k n pc lv st w := by
  subst hq
  intro ls H locs hl hP hS
  exact lv_iconst X.1 X.2.1 d rfl (kk ls H locs hl hP hS)
theorem j_bipush (X : Cx p l s m args meth c y cc nL ret D ca base) {a : Int} (hv : (Int8.ofInt a).toInt32 = iI a) (d : decode cc pc = .ok (.bipush a, 2)) (hq : pc + 2 = q) (kk : J p l e R s m args below meth c Q D base nL k n q lv (.int (iI a) :: st) w) : J p l e R s m args below meth c Q D base nL k n pc lv st w := by
  subst hq
  intro ls H locs hl hP hS
  exact lv_bipush X.1 X.2.1 d hv (kk ls H locs hl hP hS)
theorem j_sipush (X : Cx p l s m args meth c y cc nL ret D ca base) {a : Int} (hv : (Int16.ofInt a).toInt32 = iI a) (d : decode cc pc = .ok (.sipush a, 3)) (hq : pc + 3 = q) (kk : J p l e R s m args below meth c Q D base nL k n q lv (.int (iI a) :: st) w) : J p l e R s m args below meth c Q D base nL k n pc lv st w := by
  subst hq
  intro ls H locs hl hP hS
  exact lv_sipush X.1 X.2.1 d hv (kk ls H locs hl hP hS)
theorem j_lconst (X : Cx p l s m args meth c y cc nL ret D ca base) {f : Fin 2} {a : Int} (hv : Int64.ofNat (f : Nat) = iL a) (d : decode cc pc = .ok (.lconst f, 1)) (hq : pc + 1 = q) (kk : J p l e R s m args below meth c Q D base nL k n q lv (.long (iL a) :: st) w) : J p l e R s m args below meth c Q D base nL k n pc lv st w := by
  subst hq
  intro ls H locs hl hP hS
  exact lv_lconst X.1 X.2.1 d hv (kk ls H locs hl hP hS)
theorem j_null (X : Cx p l s m args meth c y cc nL ret D ca base)  (d : decode cc pc = .ok (.aconst_null, 1)) (hq : pc + 1 = q) (kk : J p l e R s m args below meth c Q D base nL k n q lv (va_rf none :: st) w) : J p l e R s m args below meth c Q D base nL k n pc lv st w := by
  subst hq
  intro ls H locs hl hP hS
  exact lv_null X.1 X.2.1 d (kk ls H locs hl hP hS)
theorem j_ldc (X : Cx p l s m args meth c y cc nL ret D ca base) {idx : Nat} {v : Int32} {a : Int} (hw : Cond.constant y.cls idx v ∈ BG) (hv : v = iI a) (d : decode cc pc = .ok (.ldc idx, 2)) (hq : pc + 2 = q) (kk : J p l e R s m args below meth c Q D base nL k n q lv (.int (iI a) :: st) w) : J p l e R s m args below meth c Q D base nL k n pc lv st w := by
  subst hq
  intro ls H locs hl hP hS
  exact (by subst hv; exact lv_ldc X.1 X.2.1 X.2.2.2.1 (X.2.2.2.2.1 _ hw) d (kk ls H locs hl hP hS))
theorem j_dup (X : Cx p l s m args meth c y cc nL ret D ca base) {v : Value} (hv : v.category = 1) (d : decode cc pc = .ok (.dup, 1)) (hq : pc + 1 = q) (kk : J p l e R s m args below meth c Q D base nL k n q lv (v :: v :: st) w) : J p l e R s m args below meth c Q D base nL k n pc lv (v :: st) w := by
  subst hq
  intro ls H locs hl hP hS
  exact lv_dup X.1 X.2.1 d hv (kk ls H locs hl hP hS)
theorem j_dup2 (X : Cx p l s m args meth c y cc nL ret D ca base) {v u : Value} (hv : v.category = 1) (hu : u.category = 1) (d : decode cc pc = .ok (.dup2, 1)) (hq : pc + 1 = q) (kk : J p l e R s m args below meth c Q D base nL k n q lv (v :: u :: v :: u :: st) w) : J p l e R s m args below meth c Q D base nL k n pc lv (v :: u :: st) w := by
  subst hq
  intro ls H locs hl hP hS
  exact lv_dup2_11 X.1 X.2.1 d hv hu (kk ls H locs hl hP hS)
theorem j_iadd (X : Cx p l s m args meth c y cc nL ret D ca base) {a b : Int} (d : decode cc pc = .ok (.iadd, 1)) (hq : pc + 1 = q) (kk : J p l e R s m args below meth c Q D base nL k n q lv (.int (iI (a + b)) :: st) w) : J p l e R s m args below meth c Q D base nL k n pc lv (.int (iI b) :: .int (iI a) :: st) w := by
  subst hq
  intro ls H locs hl hP hS
  exact lv_iadd X.1 X.2.1 d (by have h := kk ls H locs hl hP hS; rwa [show iI (a + b) = iI a + iI b from Int32.ofInt_add a b] at h)
theorem j_isub (X : Cx p l s m args meth c y cc nL ret D ca base) {a b : Int} (d : decode cc pc = .ok (.isub, 1)) (hq : pc + 1 = q) (kk : J p l e R s m args below meth c Q D base nL k n q lv (.int (iI (a - b)) :: st) w) : J p l e R s m args below meth c Q D base nL k n pc lv (.int (iI b) :: .int (iI a) :: st) w := by
  subst hq
  intro ls H locs hl hP hS
  exact lv_isub X.1 X.2.1 d (by have h := kk ls H locs hl hP hS; rwa [show iI (a - b) = iI a - iI b from Int32.ofInt_sub a b] at h)
theorem j_imul (X : Cx p l s m args meth c y cc nL ret D ca base) {a b : Int} (d : decode cc pc = .ok (.imul, 1)) (hq : pc + 1 = q) (kk : J p l e R s m args below meth c Q D base nL k n q lv (.int (iI (a * b)) :: st) w) : J p l e R s m args below meth c Q D base nL k n pc lv (.int (iI b) :: .int (iI a) :: st) w := by
  subst hq
  intro ls H locs hl hP hS
  exact lv_imul X.1 X.2.1 d (by have h := kk ls H locs hl hP hS; rwa [show iI (a * b) = iI a * iI b from Int32.ofInt_mul a b] at h)
theorem j_ineg (X : Cx p l s m args meth c y cc nL ret D ca base) {a : Int} (d : decode cc pc = .ok (.ineg, 1)) (hq : pc + 1 = q) (kk : J p l e R s m args below meth c Q D base nL k n q lv (.int (iI (-a)) :: st) w) : J p l e R s m args below meth c Q D base nL k n pc lv (.int (iI a) :: st) w := by
  subst hq
  intro ls H locs hl hP hS
  exact lv_ineg X.1 X.2.1 d (by have h := kk ls H locs hl hP hS; rwa [show iI (-a) = -iI a from Int32.ofInt_neg a] at h)
theorem j_ladd (X : Cx p l s m args meth c y cc nL ret D ca base) {a b : Int} (d : decode cc pc = .ok (.ladd, 1)) (hq : pc + 1 = q) (kk : J p l e R s m args below meth c Q D base nL k n q lv (.long (iL (a + b)) :: st) w) : J p l e R s m args below meth c Q D base nL k n pc lv (.long (iL b) :: .long (iL a) :: st) w := by
  subst hq
  intro ls H locs hl hP hS
  exact lv_ladd X.1 X.2.1 d (by have h := kk ls H locs hl hP hS; rwa [show iL (a + b) = iL a + iL b from Int64.ofInt_add a b] at h)
theorem j_lsub (X : Cx p l s m args meth c y cc nL ret D ca base) {a b : Int} (d : decode cc pc = .ok (.lsub, 1)) (hq : pc + 1 = q) (kk : J p l e R s m args below meth c Q D base nL k n q lv (.long (iL (a - b)) :: st) w) : J p l e R s m args below meth c Q D base nL k n pc lv (.long (iL b) :: .long (iL a) :: st) w := by
  subst hq
  intro ls H locs hl hP hS
  exact lv_lsub X.1 X.2.1 d (by have h := kk ls H locs hl hP hS; rwa [show iL (a - b) = iL a - iL b from Int64.ofInt_sub a b] at h)
theorem j_lmul (X : Cx p l s m args meth c y cc nL ret D ca base) {a b : Int} (d : decode cc pc = .ok (.lmul, 1)) (hq : pc + 1 = q) (kk : J p l e R s m args below meth c Q D base nL k n q lv (.long (iL (a * b)) :: st) w) : J p l e R s m args below meth c Q D base nL k n pc lv (.long (iL b) :: .long (iL a) :: st) w := by
  subst hq
  intro ls H locs hl hP hS
  exact lv_lmul X.1 X.2.1 d (by have h := kk ls H locs hl hP hS; rwa [show iL (a * b) = iL a * iL b from Int64.ofInt_mul a b] at h)
theorem j_lneg (X : Cx p l s m args meth c y cc nL ret D ca base) {a : Int} (d : decode cc pc = .ok (.lneg, 1)) (hq : pc + 1 = q) (kk : J p l e R s m args below meth c Q D base nL k n q lv (.long (iL (-a)) :: st) w) : J p l e R s m args below meth c Q D base nL k n pc lv (.long (iL a) :: st) w := by
  subst hq
  intro ls H locs hl hP hS
  exact lv_lneg X.1 X.2.1 d (by have h := kk ls H locs hl hP hS; rwa [show iL (-a) = -iL a from Int64.ofInt_neg a] at h)
theorem j_i2l (X : Cx p l s m args meth c y cc nL ret D ca base) {a : Int} (ha : -2147483648 ≤ a ∧ a ≤ 2147483647) (d : decode cc pc = .ok (.i2l, 1)) (hq : pc + 1 = q) (kk : J p l e R s m args below meth c Q D base nL k n q lv (.long (iL a) :: st) w) : J p l e R s m args below meth c Q D base nL k n pc lv (.int (iI a) :: st) w := by
  subst hq
  intro ls H locs hl hP hS
  exact lv_i2l X.1 X.2.1 d (Int32.toInt64_ofInt ha.1 ha.2) (kk ls H locs hl hP hS)
theorem iI_T {a : Int} (h : -2147483648 ≤ a ∧ a ≤ 2147483647) : (iI a).toInt = a := Int32.toInt_ofInt_of_le h.1 (by omega)
theorem iL_T {a : Int} (h : -9223372036854775808 ≤ a ∧ a ≤ 9223372036854775807) : (iL a).toInt = a := Int64.toInt_ofInt_of_le h.1 (by omega)
theorem iI_lt {a b : Int} (ha : -2147483648 ≤ a ∧ a ≤ 2147483647) (hb : -2147483648 ≤ b ∧ b ≤ 2147483647) : iI a < iI b ↔ a < b := Int32.ofInt_lt_iff_lt ha.1 ha.2 hb.1 hb.2
theorem iI_le {a b : Int} (ha : -2147483648 ≤ a ∧ a ≤ 2147483647) (hb : -2147483648 ≤ b ∧ b ≤ 2147483647) : iI a ≤ iI b ↔ a ≤ b := Int32.ofInt_le_iff_le ha.1 ha.2 hb.1 hb.2
theorem iI_eq {a b : Int} (ha : -2147483648 ≤ a ∧ a ≤ 2147483647) (hb : -2147483648 ≤ b ∧ b ≤ 2147483647) : iI a = iI b ↔ a = b := ⟨fun h => by have := congrArg Int32.toInt h; rwa [iI_T ha, iI_T hb] at this, fun h => by rw [h]⟩
theorem iL_lt {a b : Int} (ha : -9223372036854775808 ≤ a ∧ a ≤ 9223372036854775807) (hb : -9223372036854775808 ≤ b ∧ b ≤ 9223372036854775807) : iL a < iL b ↔ a < b := Int64.ofInt_lt_iff_lt ha.1 ha.2 hb.1 hb.2
theorem iI_z : (0 : Int32) = iI 0 := rfl
theorem iL_z : (0 : Int64) = iL 0 := rfl
theorem iI_cl {a : Int} (h : 0 ≤ a ∧ a ≤ 2147483647) : (iI a).toNatClampNeg = a.toNat := by
  rw [Int32.toNatClampNeg, iI_T (by omega)]
theorem iI_in {a : Int} {N : Nat} (h : 0 ≤ a ∧ a < (N : Int)) (hN : N < 2147483648) : vp_in (iI a) N := by
  rw [vp_in_iff, iI_T (by omega)]
  exact h
theorem j_idiv (X : Cx p l s m args meth c y cc nL ret D ca base) {a b : Int} (ha : -2147483647 ≤ a ∧ a ≤ 2147483647) (hb : 1 ≤ b ∧ b ≤ 2147483647) (d : decode cc pc = .ok (.idiv, 1)) (hq : pc + 1 = q) (kk : J p l e R s m args below meth c Q D base nL k n q lv (.int (iI (a.tdiv b)) :: st) w) : J p l e R s m args below meth c Q D base nL k n pc lv (.int (iI b) :: .int (iI a) :: st) w := by
  subst hq
  intro ls H locs hl hP hS
  exact lv_idiv X.1 X.2.1 d (by rw [iI_z, iI_eq (by omega) (by omega)]; omega) (by have h := kk ls H locs hl hP hS; rwa [show iI (a.tdiv b) = iI a / iI b from Int32.ofInt_tdiv (by show (-2147483648 : Int) ≤ a; omega) ha.2 (by show (-2147483648 : Int) ≤ b; omega) hb.2] at h)
theorem iI_tmod {a b : Int} (ha : -2147483647 ≤ a ∧ a ≤ 2147483647) (hb : 1 ≤ b ∧ b ≤ 2147483647) : iI (a.tmod b) = iI a - iI a / iI b * iI b := by
  have h1 : iI (a.tdiv b) = iI a / iI b := Int32.ofInt_tdiv (by show (-2147483648 : Int) ≤ a; omega) ha.2 (by show (-2147483648 : Int) ≤ b; omega) hb.2
  rw [← h1, Int.tmod_def, Int.mul_comm b]
  show Int32.ofInt (a - a.tdiv b * b) = _
  rw [Int32.ofInt_sub, Int32.ofInt_mul]
theorem j_ldiv (X : Cx p l s m args meth c y cc nL ret D ca base) {a b : Int} (ha : -9223372036854775808 ≤ a ∧ a ≤ 9223372036854775807) (hb : 1 ≤ b ∧ b ≤ 9223372036854775807) (d : decode cc pc = .ok (.ldiv, 1)) (hq : pc + 1 = q) (kk : J p l e R s m args below meth c Q D base nL k n q lv (.long (iL (a.tdiv b)) :: st) w) : J p l e R s m args below meth c Q D base nL k n pc lv (.long (iL b) :: .long (iL a) :: st) w := by
  subst hq
  intro ls H locs hl hP hS
  exact lv_ldiv X.1 X.2.1 d (fun z => by have := congrArg Int64.toInt z; rw [iL_z, iL_T (by omega), iL_T (by omega)] at this; omega) (by have h := kk ls H locs hl hP hS; rwa [show iL (a.tdiv b) = iL a / iL b from Int64.ofInt_tdiv ha.1 ha.2 (by show (-9223372036854775808 : Int) ≤ b; omega) hb.2] at h)
theorem j_irem (X : Cx p l s m args meth c y cc nL ret D ca base) {a b : Int} (ha : -2147483647 ≤ a ∧ a ≤ 2147483647) (hb : 1 ≤ b ∧ b ≤ 2147483647) (d : decode cc pc = .ok (.irem, 1)) (hq : pc + 1 = q) (kk : J p l e R s m args below meth c Q D base nL k n q lv (.int (iI (a.tmod b)) :: st) w) : J p l e R s m args below meth c Q D base nL k n pc lv (.int (iI b) :: .int (iI a) :: st) w := by
  subst hq
  intro ls H locs hl hP hS
  exact lv_irem X.1 X.2.1 d (by rw [iI_z, iI_eq (by omega) (by omega)]; omega) (by rw [← iI_tmod ha hb]; exact kk ls H locs hl hP hS)
theorem j_icmp_eq (X : Cx p l s m args meth c y cc nL ret D ca base) {a b off : Int} {tgt : Nat} (d : decode cc pc = .ok (.if_icmp .eq off, 3)) (ht : (pc : Int) + off = (tgt : Int)) (hq : pc + 3 = q) (ha : -2147483648 ≤ a ∧ a ≤ 2147483647) (hb : -2147483648 ≤ b ∧ b ≤ 2147483647) (kt : a = b → J p l e R s m args below meth c Q D base nL k n tgt lv st w) (kf : a ≠ b → J p l e R s m args below meth c Q D base nL k n q lv st w) : J p l e R s m args below meth c Q D base nL k n pc lv (.int (iI b) :: .int (iI a) :: st) w := by
  subst hq
  intro ls H locs hl hP hS
  exact lv_icmp_eq X.1 X.2.1 d ht (fun h => kt ((iI_eq ha hb).mp h) ls H locs hl hP hS) (fun h => kf (fun z => h ((iI_eq ha hb).mpr z)) ls H locs hl hP hS)
theorem j_icmp_ne (X : Cx p l s m args meth c y cc nL ret D ca base) {a b off : Int} {tgt : Nat} (d : decode cc pc = .ok (.if_icmp .ne off, 3)) (ht : (pc : Int) + off = (tgt : Int)) (hq : pc + 3 = q) (ha : -2147483648 ≤ a ∧ a ≤ 2147483647) (hb : -2147483648 ≤ b ∧ b ≤ 2147483647) (kt : a ≠ b → J p l e R s m args below meth c Q D base nL k n tgt lv st w) (kf : a = b → J p l e R s m args below meth c Q D base nL k n q lv st w) : J p l e R s m args below meth c Q D base nL k n pc lv (.int (iI b) :: .int (iI a) :: st) w := by
  subst hq
  intro ls H locs hl hP hS
  exact lv_icmp_ne X.1 X.2.1 d ht (fun h => kt (fun z => h ((iI_eq ha hb).mpr z)) ls H locs hl hP hS) (fun h => kf ((iI_eq ha hb).mp h) ls H locs hl hP hS)
theorem j_icmp_lt (X : Cx p l s m args meth c y cc nL ret D ca base) {a b off : Int} {tgt : Nat} (d : decode cc pc = .ok (.if_icmp .lt off, 3)) (ht : (pc : Int) + off = (tgt : Int)) (hq : pc + 3 = q) (ha : -2147483648 ≤ a ∧ a ≤ 2147483647) (hb : -2147483648 ≤ b ∧ b ≤ 2147483647) (kt : a < b → J p l e R s m args below meth c Q D base nL k n tgt lv st w) (kf : b ≤ a → J p l e R s m args below meth c Q D base nL k n q lv st w) : J p l e R s m args below meth c Q D base nL k n pc lv (.int (iI b) :: .int (iI a) :: st) w := by
  subst hq
  intro ls H locs hl hP hS
  exact lv_icmp_lt X.1 X.2.1 d ht (fun h => kt ((iI_lt ha hb).mp h) ls H locs hl hP hS) (fun h => kf (Int.not_lt.mp fun z => h ((iI_lt ha hb).mpr z)) ls H locs hl hP hS)
theorem j_icmp_ge (X : Cx p l s m args meth c y cc nL ret D ca base) {a b off : Int} {tgt : Nat} (d : decode cc pc = .ok (.if_icmp .ge off, 3)) (ht : (pc : Int) + off = (tgt : Int)) (hq : pc + 3 = q) (ha : -2147483648 ≤ a ∧ a ≤ 2147483647) (hb : -2147483648 ≤ b ∧ b ≤ 2147483647) (kt : b ≤ a → J p l e R s m args below meth c Q D base nL k n tgt lv st w) (kf : a < b → J p l e R s m args below meth c Q D base nL k n q lv st w) : J p l e R s m args below meth c Q D base nL k n pc lv (.int (iI b) :: .int (iI a) :: st) w := by
  subst hq
  intro ls H locs hl hP hS
  exact lv_icmp_ge X.1 X.2.1 d ht (fun h => kt ((iI_le hb ha).mp h) ls H locs hl hP hS) (fun h => kf (Int.not_le.mp fun z => h ((iI_le hb ha).mpr z)) ls H locs hl hP hS)
theorem j_icmp_gt (X : Cx p l s m args meth c y cc nL ret D ca base) {a b off : Int} {tgt : Nat} (d : decode cc pc = .ok (.if_icmp .gt off, 3)) (ht : (pc : Int) + off = (tgt : Int)) (hq : pc + 3 = q) (ha : -2147483648 ≤ a ∧ a ≤ 2147483647) (hb : -2147483648 ≤ b ∧ b ≤ 2147483647) (kt : b < a → J p l e R s m args below meth c Q D base nL k n tgt lv st w) (kf : a ≤ b → J p l e R s m args below meth c Q D base nL k n q lv st w) : J p l e R s m args below meth c Q D base nL k n pc lv (.int (iI b) :: .int (iI a) :: st) w := by
  subst hq
  intro ls H locs hl hP hS
  exact lv_icmp_gt X.1 X.2.1 d ht (fun h => kt ((iI_lt hb ha).mp h) ls H locs hl hP hS) (fun h => kf (Int.not_lt.mp fun z => h ((iI_lt hb ha).mpr z)) ls H locs hl hP hS)
theorem j_icmp_le (X : Cx p l s m args meth c y cc nL ret D ca base) {a b off : Int} {tgt : Nat} (d : decode cc pc = .ok (.if_icmp .le off, 3)) (ht : (pc : Int) + off = (tgt : Int)) (hq : pc + 3 = q) (ha : -2147483648 ≤ a ∧ a ≤ 2147483647) (hb : -2147483648 ≤ b ∧ b ≤ 2147483647) (kt : a ≤ b → J p l e R s m args below meth c Q D base nL k n tgt lv st w) (kf : b < a → J p l e R s m args below meth c Q D base nL k n q lv st w) : J p l e R s m args below meth c Q D base nL k n pc lv (.int (iI b) :: .int (iI a) :: st) w := by
  subst hq
  intro ls H locs hl hP hS
  exact lv_icmp_le X.1 X.2.1 d ht (fun h => kt ((iI_le ha hb).mp h) ls H locs hl hP hS) (fun h => kf (Int.not_le.mp fun z => h ((iI_le ha hb).mpr z)) ls H locs hl hP hS)
theorem jz_eq {a : Int} (ha : -2147483648 ≤ a ∧ a ≤ 2147483647) : iI a = 0 ↔ a = 0 := iI_eq (b := 0) ha (by decide)
theorem jz_lt {a : Int} (ha : -2147483648 ≤ a ∧ a ≤ 2147483647) : iI a < 0 ↔ a < 0 := iI_lt (b := 0) ha (by decide)
theorem jz_le {a : Int} (ha : -2147483648 ≤ a ∧ a ≤ 2147483647) : iI a ≤ 0 ↔ a ≤ 0 := iI_le (b := 0) ha (by decide)
theorem jz_gt {a : Int} (ha : -2147483648 ≤ a ∧ a ≤ 2147483647) : 0 < iI a ↔ 0 < a := iI_lt (a := 0) (by decide) ha
theorem jz_ge {a : Int} (ha : -2147483648 ≤ a ∧ a ≤ 2147483647) : 0 ≤ iI a ↔ 0 ≤ a := iI_le (a := 0) (by decide) ha
theorem j_if_eq (X : Cx p l s m args meth c y cc nL ret D ca base) {a off : Int} {tgt : Nat} (d : decode cc pc = .ok (.ifCond .eq off, 3)) (ht : (pc : Int) + off = (tgt : Int)) (hq : pc + 3 = q) (ha : -2147483648 ≤ a ∧ a ≤ 2147483647) (kt : a = 0 → J p l e R s m args below meth c Q D base nL k n tgt lv st w) (kf : a ≠ 0 → J p l e R s m args below meth c Q D base nL k n q lv st w) : J p l e R s m args below meth c Q D base nL k n pc lv (.int (iI a) :: st) w := by
  subst hq
  intro ls H locs hl hP hS
  exact lv_if_eq X.1 X.2.1 d ht (fun h => kt ((jz_eq ha).mp h) ls H locs hl hP hS) (fun h => kf (fun z => h ((jz_eq ha).mpr z)) ls H locs hl hP hS)
theorem j_if_ne (X : Cx p l s m args meth c y cc nL ret D ca base) {a off : Int} {tgt : Nat} (d : decode cc pc = .ok (.ifCond .ne off, 3)) (ht : (pc : Int) + off = (tgt : Int)) (hq : pc + 3 = q) (ha : -2147483648 ≤ a ∧ a ≤ 2147483647) (kt : a ≠ 0 → J p l e R s m args below meth c Q D base nL k n tgt lv st w) (kf : a = 0 → J p l e R s m args below meth c Q D base nL k n q lv st w) : J p l e R s m args below meth c Q D base nL k n pc lv (.int (iI a) :: st) w := by
  subst hq
  intro ls H locs hl hP hS
  exact lv_if_ne X.1 X.2.1 d ht (fun h => kt (fun z => h ((jz_eq ha).mpr z)) ls H locs hl hP hS) (fun h => kf ((jz_eq ha).mp h) ls H locs hl hP hS)
theorem j_if_lt (X : Cx p l s m args meth c y cc nL ret D ca base) {a off : Int} {tgt : Nat} (d : decode cc pc = .ok (.ifCond .lt off, 3)) (ht : (pc : Int) + off = (tgt : Int)) (hq : pc + 3 = q) (ha : -2147483648 ≤ a ∧ a ≤ 2147483647) (kt : a < 0 → J p l e R s m args below meth c Q D base nL k n tgt lv st w) (kf : 0 ≤ a → J p l e R s m args below meth c Q D base nL k n q lv st w) : J p l e R s m args below meth c Q D base nL k n pc lv (.int (iI a) :: st) w := by
  subst hq
  intro ls H locs hl hP hS
  exact lv_if_lt X.1 X.2.1 d ht (fun h => kt ((jz_lt ha).mp h) ls H locs hl hP hS) (fun h => kf (Int.not_lt.mp fun z => h ((jz_lt ha).mpr z)) ls H locs hl hP hS)
theorem j_if_ge (X : Cx p l s m args meth c y cc nL ret D ca base) {a off : Int} {tgt : Nat} (d : decode cc pc = .ok (.ifCond .ge off, 3)) (ht : (pc : Int) + off = (tgt : Int)) (hq : pc + 3 = q) (ha : -2147483648 ≤ a ∧ a ≤ 2147483647) (kt : 0 ≤ a → J p l e R s m args below meth c Q D base nL k n tgt lv st w) (kf : a < 0 → J p l e R s m args below meth c Q D base nL k n q lv st w) : J p l e R s m args below meth c Q D base nL k n pc lv (.int (iI a) :: st) w := by
  subst hq
  intro ls H locs hl hP hS
  exact lv_if_ge X.1 X.2.1 d ht (fun h => kt ((jz_ge ha).mp h) ls H locs hl hP hS) (fun h => kf (Int.not_le.mp fun z => h ((jz_ge ha).mpr z)) ls H locs hl hP hS)
theorem j_if_gt (X : Cx p l s m args meth c y cc nL ret D ca base) {a off : Int} {tgt : Nat} (d : decode cc pc = .ok (.ifCond .gt off, 3)) (ht : (pc : Int) + off = (tgt : Int)) (hq : pc + 3 = q) (ha : -2147483648 ≤ a ∧ a ≤ 2147483647) (kt : 0 < a → J p l e R s m args below meth c Q D base nL k n tgt lv st w) (kf : a ≤ 0 → J p l e R s m args below meth c Q D base nL k n q lv st w) : J p l e R s m args below meth c Q D base nL k n pc lv (.int (iI a) :: st) w := by
  subst hq
  intro ls H locs hl hP hS
  exact lv_if_gt X.1 X.2.1 d ht (fun h => kt ((jz_gt ha).mp h) ls H locs hl hP hS) (fun h => kf (Int.not_lt.mp fun z => h ((jz_gt ha).mpr z)) ls H locs hl hP hS)
theorem j_if_le (X : Cx p l s m args meth c y cc nL ret D ca base) {a off : Int} {tgt : Nat} (d : decode cc pc = .ok (.ifCond .le off, 3)) (ht : (pc : Int) + off = (tgt : Int)) (hq : pc + 3 = q) (ha : -2147483648 ≤ a ∧ a ≤ 2147483647) (kt : a ≤ 0 → J p l e R s m args below meth c Q D base nL k n tgt lv st w) (kf : 0 < a → J p l e R s m args below meth c Q D base nL k n q lv st w) : J p l e R s m args below meth c Q D base nL k n pc lv (.int (iI a) :: st) w := by
  subst hq
  intro ls H locs hl hP hS
  exact lv_if_le X.1 X.2.1 d ht (fun h => kt ((jz_le ha).mp h) ls H locs hl hP hS) (fun h => kf (Int.not_le.mp fun z => h ((jz_le ha).mpr z)) ls H locs hl hP hS)
theorem j_goto (X : Cx p l s m args meth c y cc nL ret D ca base) {off : Int} {tgt : Nat} (d : decode cc pc = .ok (.goto off, 3)) (ht : (pc : Int) + off = (tgt : Int)) (kk : J p l e R s m args below meth c Q D base nL k n tgt lv st w) : J p l e R s m args below meth c Q D base nL k n pc lv st w :=
  fun ls H locs hl hP hS => lv_goto X.1 X.2.1 d ht (kk ls H locs hl hP hS)
theorem j_ifnull (X : Cx p l s m args meth c y cc nL ret D ca base) {r : Option Nat} {off : Int} {tgt : Nat} (d : decode cc pc = .ok (.ifnull off, 3)) (ht : (pc : Int) + off = (tgt : Int)) (hq : pc + 3 = q) (kt : r = none → J p l e R s m args below meth c Q D base nL k n tgt lv st w) (kf : ∀ a, r = some a → J p l e R s m args below meth c Q D base nL k n q lv st w) : J p l e R s m args below meth c Q D base nL k n pc lv (va_rf r :: st) w := by
  subst hq
  intro ls H locs hl hP hS
  cases r with
  | none => exact lv_ifnullN X.1 X.2.1 d ht (kt rfl ls H locs hl hP hS)
  | some a => exact lv_ifnull X.1 X.2.1 d (kf a rfl ls H locs hl hP hS)
theorem j_ifnonnull (X : Cx p l s m args meth c y cc nL ret D ca base) {r : Option Nat} {off : Int} {tgt : Nat} (d : decode cc pc = .ok (.ifnonnull off, 3)) (ht : (pc : Int) + off = (tgt : Int)) (hq : pc + 3 = q) (kt : ∀ a, r = some a → J p l e R s m args below meth c Q D base nL k n tgt lv st w) (kf : r = none → J p l e R s m args below meth c Q D base nL k n q lv st w) : J p l e R s m args below meth c Q D base nL k n pc lv (va_rf r :: st) w := by
  subst hq
  intro ls H locs hl hP hS
  cases r with
  | none => exact lv_ifnonnullN X.1 X.2.1 d (kf rfl ls H locs hl hP hS)
  | some a => exact lv_ifnonnull X.1 X.2.1 d ht (kt a rfl ls H locs hl hP hS)
theorem j_acmp_ne (X : Cx p l s m args meth c y cc nL ret D ca base) {ra rb : Option Nat} {off : Int} {tgt : Nat} (d : decode cc pc = .ok (.if_acmp .ne off, 3)) (ht : (pc : Int) + off = (tgt : Int)) (hq : pc + 3 = q) (kt : ¬ ra = rb → J p l e R s m args below meth c Q D base nL k n tgt lv st w) (kf : ra = rb → J p l e R s m args below meth c Q D base nL k n q lv st w) : J p l e R s m args below meth c Q D base nL k n pc lv (va_rf rb :: va_rf ra :: st) w := by
  subst hq
  intro ls H locs hl hP hS
  exact lv_acmp_ne X.1 X.2.1 d ht (fun h => kt h ls H locs hl hP hS) (fun h => kf h ls H locs hl hP hS)
theorem j_get (X : Cx p l s m args meth c y cc nL ret D ca base) {idx ci f : Nat} {a : Nat} {fs : List Value} {v : Value} (hf : FL y.cls idx ci f) (he : w a = some (.inr (ci, fs))) (hv : fs[f]? = some v) (d : decode cc pc = .ok (.getfield idx, 3)) (hq : pc + 3 = q) (kk : J p l e R s m args below meth c Q D base nL k n q lv (v :: st) w) : J p l e R s m args below meth c Q D base nL k n pc lv (.ref a :: st) w := by
  subst hq
  intro ls H locs hl hP hS
  obtain ⟨C, T, N, hc, hk, hlink, hC, hin⟩ := hf
  obtain ⟨hx, hb, -, hown, hts, hG, -⟩ := X
  refine va_get (D := D) (ci := ci) (v := v) hx hb hts hin hown hG.1 (hP.one he) 0 rfl hc f hk (hts _ hlink) (fun x h => by rw [← hC]; exact h) hv d (kk ls H locs hl hP hS)
theorem j_put (X : Cx p l s m args meth c y cc nL ret D ca base) {idx ci f : Nat} {a : Nat} {fs : List Value} {v : Value} {ty : FieldType} (hf : FP y.cls idx ci f ty false) (he : w a = some (.inr (ci, fs))) (hl9 : f < fs.length) (hn : narrow ty v = v) (hfit : fits ty v = true) (hba : base ≤ a) (d : decode cc pc = .ok (.putfield idx, 3)) (hq : pc + 3 = q) (kk : J p l e R s m args below meth c Q D base nL k n q lv st (wu w a (.inr (ci, fs.set f v)))) : J p l e R s m args below meth c Q D base nL k n pc lv (v :: .ref a :: st) w := by
  subst hq
  intro ls H locs hl hP hS
  obtain ⟨C, T, N, ty0, hc, hk, hlink, hC, hin, hty, hnm, hfin, hd⟩ := hf
  obtain ⟨hx, hb, -, hown, hts, hG, -⟩ := X
  have hK := hG.1
  have hap := va_apart (own := y.cls) hts hin ty0 hty hnm hK hc
  obtain ⟨r, h1, cell, q1, q2, q3, q4⟩ := hP a _ he
  have hr : r = (C, T, N) := Option.some.inj (h1.symm.trans hc)
  subst hr
  obtain ⟨hSl, hfc, kC, hkC, hkind⟩ := hK.1 ci _ hc
  obtain ⟨cf, kf, fi, fd, hi, hsl⟩ := hSl f hk
  have hlay := hts _ (hin _ (u_in_lay hk))
  unfold u_lay at hlay
  rw [if_neg (by rw [hfin]; decide)] at hlay
  have hst := (u_facts hfc hkC (u_lays hts hin hk) hi).1
  have h6 := u_store hfc hkC hkind hlay hi hd hn hfit
  refine W.putK hx hb (f := fd) ⟨hown, hts _ hlink, ⟨_, _, _, by rw [hC] at hi; exact hi⟩, hst⟩ (by rw [q2]; exact h6) q1 q3 (by rw [hsl]; exact k2_hasslot (q4 f hk)) rfl rfl d fun H' e1 e2 e3 => ?_
  rw [hsl] at e1 ⊢
  exact kk ls H' _ hl (hP.set ⟨_, hc, t_OB.to (V := updV (vp_V fs) f v) ⟨_, e1, q2, q3, t_set q4 hap hk v⟩ (fun j _ => vp_updV_set hl9 v j)⟩ e3) (hS.put e2 e3 hba)
theorem j_putF (X : Cx p l s m args meth c y cc nL ret D ca base) {idx ci f : Nat} {a : Nat} {fs : List Value} {v : Value} {ty : FieldType} (hf : FP y.cls idx ci f ty true) (hyi : y.name = "<init>") (hyc : vwCl[ci]?.map (fun q => q.1) = some y.cls) (he : w a = some (.inr (ci, fs))) (hl9 : f < fs.length) (hn : narrow ty v = v) (hfit : fits ty v = true) (hba : base ≤ a) (d : decode cc pc = .ok (.putfield idx, 3)) (hq : pc + 3 = q) (kk : J p l e R s m args below meth c Q D base nL k n q lv st (wu w a (.inr (ci, fs.set f v)))) : J p l e R s m args below meth c Q D base nL k n pc lv (v :: .ref a :: st) w := by
  subst hq
  intro ls H locs hl hP hS
  obtain ⟨C, T, N, ty0, hc, hk, hlink, hC, hin, hty, hnm, hfin, hd⟩ := hf
  obtain ⟨hx, hb, -, hown, hts, hG, -, -, -, hmn⟩ := X
  have hyC : C = y.cls := by rw [hc] at hyc; exact Option.some.inj hyc
  have hK := hG.1
  have hap := va_apart (own := y.cls) hts hin ty0 hty hnm hK hc
  obtain ⟨r, h1, cell, q1, q2, q3, q4⟩ := hP a _ he
  have hr : r = (C, T, N) := Option.some.inj (h1.symm.trans hc)
  subst hr
  obtain ⟨hSl, hfc, kC, hkC, hkind⟩ := hK.1 ci _ hc
  obtain ⟨cf, kf, fi, fd, hi, hsl⟩ := hSl f hk
  have hlay := hts _ (hin _ (u_in_lay hk))
  unfold u_lay at hlay
  rw [if_pos hfin] at hlay
  have hst := (u_facts hfc hkC (u_lays hts hin hk) hi).1
  have hcf : m.cls = cf := by
    obtain ⟨_, _, c', _, _, _, -, -, hf', -, -, -, hown2, -⟩ := Cond.laysFinal_spec hlay
    have e1 : c' = cf := by have := hi.symm.trans hf'; simp at this; exact this.1.symm
    rw [hC, hyC] at hown2
    rw [← e1]; exact Option.some.inj (hown.symm.trans hown2)
  have h6 := u_fits hfc hkC hkind (Or.inr hlay) hi hd hn hfit
  refine W.putFinK hx hb hown (hts _ hlink) (by rw [hC] at hi; exact hi) hst hcf (hmn.trans hyi) (by rw [q2]; exact h6) q1 q3 (by rw [hsl]; exact k2_hasslot (q4 f hk)) rfl rfl d fun H' e1 e2 e3 => ?_
  rw [hsl] at e1 ⊢
  exact kk ls H' _ hl (hP.set ⟨_, hc, t_OB.to (V := updV (vp_V fs) f v) ⟨_, e1, q2, q3, t_set q4 hap hk v⟩ (fun j _ => vp_updV_set hl9 v j)⟩ e3) (hS.put e2 e3 hba)
theorem j_new (X : Cx p l s m args meth c y cc nL ret D ca base) {idx ci N : Nat} {fs : List Value} (hf : NW y.cls idx ci N fs) (hck : k + 1 ≤ R.cells) (hcn : n + N ≤ R.slots) (d : decode cc pc = .ok (.new idx, 3)) (hq : pc + 3 = q) (kk : ∀ a : Nat, base ≤ a → w a = none → J p l e R s m args below meth c Q D base nL (k + 1) (n + N) q lv (.ref a :: st) (wu w a (.inr (ci, fs)))) : J p l e R s m args below meth c Q D base nL k n pc lv st w := by
  subst hq
  intro ls H locs hl hP hS
  obtain ⟨C, T, ty0, hc, hin, hty, hcl, hinst, hini, hfs⟩ := hf
  obtain ⟨hx, hb, -, hown, hts, hG, -⟩ := X
  have hKn := hG.1.1 ci _ hc
  refine W.newcK hx hb hown (hts _ hcl) (hts _ hinst) (hts _ hini) rfl d hck hcn hKn.2.1 rfl fun H1 kC hkC e1 z1 o1 => ?_
  exact kk H.size (Nat.le_trans hG.2.1 hS.1) hP.fresh ls H1 _ hl (hP.push ⟨_, hc, (u_born ty0 hts hin hKn hkC e1 hty).to hfs⟩ o1) ⟨Nat.le_trans hS.1 (by omega), fun x h1 h2 => (o1 x (Nat.lt_of_lt_of_le h1 hS.1)).trans (hS.2.1 x h1 h2), hS.2.2⟩
theorem j_ty {U : State} (h : va_K D vwCl (tysOf ca) U) (t : Nat) {cA : ClassId} {ty : FieldType} (ht : (tysOf ca)[t]? = some (cA, ty)) : ArrOfT U cA ty := (h.2 t _ ht).1
theorem j_iald (X : Cx p l s m args meth c y cc nL ret D ca base) {a N : Nat} {f : Nat → Int32} {i : Int} (he : w a = some (.inl (ca 0, N, .inl f))) (hi : 0 ≤ i ∧ i < (N : Int)) (hN : N < 2147483648) (d : decode cc pc = .ok (.iaload, 1)) (hq : pc + 1 = q) (kk : J p l e R s m args below meth c Q D base nL k n q lv (.int (f i.toNat) :: st) w) : J p l e R s m args below meth c Q D base nL k n pc lv (.int (iI i) :: .ref a :: st) w := by
  subst hq
  intro ls H locs hl hP hS
  obtain ⟨hx, hb, -, -, -, hG, -⟩ := X
  refine va_iald (D := D) hx hb hG.1 (hP.one he) 0 0 rfl rfl (iI_in hi hN) d ?_
  rw [iI_cl (by omega)]
  exact (kk ls H locs hl hP hS)
theorem j_aald (X : Cx p l s m args meth c y cc nL ret D ca base) {a N t : Nat} {C : String} {f : Nat → Option Nat} {i : Int} (ht : (tysOf ca)[t]? = some (ca t, .object C)) (he : w a = some (.inl (ca t, N, .inr (.inr (.inr (.inr f)))))) (hi : 0 ≤ i ∧ i < (N : Int)) (hN : N < 2147483648) (d : decode cc pc = .ok (.aaload, 1)) (hq : pc + 1 = q) (kk : J p l e R s m args below meth c Q D base nL k n q lv (va_rf (f i.toNat) :: st) w) : J p l e R s m args below meth c Q D base nL k n pc lv (.int (iI i) :: .ref a :: st) w := by
  subst hq
  intro ls H locs hl hP hS
  obtain ⟨hx, hb, -, -, -, hG, -⟩ := X
  refine va_aldq (D := D) hx hb hG.1 (hP.one he) 0 t rfl ht (iI_in hi hN) d ?_
  rw [iI_cl (by omega)]
  exact (kk ls H locs hl hP hS)
theorem j_alen (X : Cx p l s m args meth c y cc nL ret D ca base) {a N t : Nat} {ty : FieldType} {x : vp_A} (ht : (tysOf ca)[t]? = some (ca t, ty)) (he : w a = some (.inl (ca t, x))) (hx1 : x.1 = N) (d : decode cc pc = .ok (.arraylength, 1)) (hq : pc + 1 = q) (kk : J p l e R s m args below meth c Q D base nL k n q lv (.int (iI N) :: st) w) : J p l e R s m args below meth c Q D base nL k n pc lv (.ref a :: st) w := by
  subst hq
  intro ls H locs hl hP hS
  obtain ⟨hx, hb, -, -, -, hG, -⟩ := X
  refine va_alen (D := D) (v := iI N) hx hb hG.1 (hP.one he) 0 t rfl ht (by rw [hx1]; exact (Int32.ofInt_eq_ofNat (n := N)).symm) d (kk ls H locs hl hP hS)
theorem hSput_ {s : State} {H H1 : Heap} {locs : List Loc} : True := trivial
theorem j_iast (X : Cx p l s m args meth c y cc nL ret D ca base) {a N : Nat} {f : Nat → Int32} {i : Int} {x : Int32} (he : w a = some (.inl (ca 0, N, .inl f))) (hi : 0 ≤ i ∧ i < (N : Int)) (hN : N < 2147483648) (hba : base ≤ a) (d : decode cc pc = .ok (.iastore, 1)) (hq : pc + 1 = q) (kk : J p l e R s m args below meth c Q D base nL k n q lv st (wu w a (.inl (ca 0, N, .inl (va_up f i.toNat x))))) : J p l e R s m args below meth c Q D base nL k n pc lv (.int x :: .int (iI i) :: .ref a :: st) w := by
  subst hq
  intro ls H locs hl hP hS
  obtain ⟨hx, hb, -, -, -, hG, -⟩ := X
  have hin := iI_in hi hN
  refine W.iast hx hb (hP a _ he) ((hG.1.2 0 _ rfl).1 N (fun j => .int (f j))) (fun z => by cases z) (by show ¬ (_ < 0 ∨ (arrV _ _ _).slots.size ≤ _); rw [arrV_size]; exact hin) rfl rfl d fun H1 e z oq => ?_
  refine kk ls H1 _ hl (hP.set ?_ oq) (hS.put z oq hba)
  show H1[a]? = some (vp_cell _ _)
  rw [e, vp_cell_i, vp_cell_i, arrV_store]
  congr 2
  funext z
  rw [iI_cl (by omega)]
  by_cases hq : z = i.toNat
  · subst hq
    simp [updV, va_up]
  · simp [updV, va_up, hq]
end JROWS
