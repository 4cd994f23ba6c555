/-! ===== the law's wrappers: methods with an exception table ===== -/
abbrev eLong (ca : Nat → ClassId) (f : Nat → Int64) : va_E := .inl (ca 5, 1, .inr (.inl f))
abbrev eDbl (ca : Nat → ClassId) (f : Nat → UInt64) : va_E := .inl (ca 6, 1, .inr (.inr (.inr (.inl f))))
def CTW (l : Launch) (D : va_G) (ca : Nat → ClassId) (base : Nat) (y : MethodName) (b : ByteArray) (maxL : Nat) (ret : Option FieldType) (hh : List (Nat × Nat × Nat × Nat)) (d mc ms : Nat) (av : List Value) (w : Wd) (post : Option Value → Wd → Prop) : Prop :=
  vx_Met l y (.codeWith y b maxL ret hh :: BG) (Rm d mc ms) (va_Pc av (fun U => GI D ca base U U.heap ∧ HP D w U.heap)) (Qn D base post) (Xn D base (fun _ _ => False)) mc ms (fun q => base ≤ q)
theorem CTW.mk {l : Launch} (hlt : l.stackTraces = false) {D : va_G} {ca : Nat → ClassId} {base : Nat} {y : MethodName} {b : ByteArray} {maxL : Nat} {ret : Option FieldType} {hh : List (Nat × Nat × Nat × Nat)} {d mc ms : Nat} {av : List Value} {w : Wd} {post : Option Value → Wd → Prop} (hy : plainName y.cls = true) (hlen : (lg_sl av).length ≤ maxL)
    (body : ∀ (p : Program) (e : Env) (s : State) (m : MethodId) (args : Array Value) (below : List Frame) (meth : Method) (c : Code), Cx p l s m args meth c y b maxL ret D ca base → c.exceptionTable.toList = tableOf hh → J p l e (Rm d mc ms) s m args below meth c (vx_MQ below (Qn D base post) (Xn D base (fun _ _ => False)) args s mc ms (fun q => base ≤ q)) D base maxL 0 0 0 (lv_args 0 av) [] w) : CTW l D ca base y b maxL ret hh d mc ms av w post := by
  refine vx_ofWH (cc := b) (maxL := maxL) (ret := ret) (hh := hh) hy rfl ?_
  intro p e s m args below meth c s₁ B hml hv
  obtain ⟨rfl, hG, hP⟩ := hv
  have hts := atoms_spec (ws := Cond.codeWith y b maxL ret hh :: BG) B.pre
  have X : Cx p l s m av.toArray meth c y b maxL ret D ca base := ⟨B.exec, B.bytes, hml, findClass_of_methodNamed B.named, fun w hw => hts w (List.mem_cons_of_mem _ hw), hG, B.notSynchronized, hlt, B.returns, (name_of_methodNamed B.named B.method).1⟩
  have h := body p e s m av.toArray below meth c X (vx_table (x := y) B (hts _ List.mem_cons_self)) _ s.heap [] (lv_entry av hlen) hP va_S.rf
  rw [lg_entry_eq]
  exact h
section LROWS
variable {p : Program} {l : Launch} {e : Env} {R : Room} {s : State} {m : MethodId} {args : Array Value} {below : List Frame} {meth : Method} {c : Code} {Q : State → Prop} {D : va_G} {ca : Nat → ClassId} {base nL k n pc q : Nat} {lv lv' : List (Nat × Value)} {st : List Value} {w : Wd} {y : MethodName} {cc : ByteArray} {ret : Option FieldType}
/-- an exception is caught by the row x of the table, past rows of other classes -/
theorem j_catch (X : Cx p l s m args meth c y cc nL ret D ca base) {E name : String} (pre : List ExceptionTableEntry) (x : ExceptionTableEntry) (suf : List ExceptionTableEntry) (hsplit : c.exceptionTable.toList = pre ++ x :: suf) (hpass : ∀ z ∈ pre, z.catchType ≠ 0 ∧ ∃ nm : String, Cond.classLink y.cls z.catchType nm ∈ BG ∧ (E, nm) ∈ jNo) (hx : covers x pc = true) (h0 : x.catchType ≠ 0) (hlink : Cond.classLink y.cls x.catchType name ∈ BG) (hcast : (E, name) ∈ jYes)
    (kk : ∀ q : Nat, J p l e R s m args below meth c Q D base nL k n x.handlerPc lv [.ref q] w) : JX p l e R s m args below meth c Q D base nL k n pc lv st w E := by
  intro ls H locs q ce hl hP hS hc1 hc2 hc3
  obtain ⟨hx9, hb, hml, hown, hts, hG, -⟩ := X
  obtain ⟨g1, g2, g3, g4, g5, g6, g7, g8, g9⟩ := hG
  exact vx_catch hown pre x suf hsplit (fun z hz => Or.inr ⟨(hpass z hz).1, (hpass z hz).2.imp fun nm h => ⟨hts _ h.1, g7 _ h.2⟩⟩) hx h0 (hts _ hlink) (va_Nw.use rfl (g6 _ hcast)) hc1 hc2 hc3 (kk q ls H locs hl hP hS)
theorem j_callW (X : Cx p l s m args meth c y cc nL ret D ca base) {idx : Nat} {z : MethodName} {b : ByteArray} {maxL : Nat} {rt : Option FieldType} {hh : List (Nat × Nat × Nat × Nat)} {dd mc ms : Nat} {As : List Value} {post : Option Value → Wd → Prop} {st0 : List Value} (hM : CTW l D ca base z b maxL rt hh dd mc ms As w post)
    (hf : Cond.methodLink y.cls idx z ∈ BG ∧ Cond.static z ∈ BG ∧ Cond.initialized z.cls ∈ BG ∧ Cond.codeWith z b maxL rt hh ∈ BG ∧ (z.cls ≠ "java/lang/invoke/MethodHandle" ∧ z.cls ≠ "java/lang/invoke/VarHandle") ∧ (parseMethodDescriptor z.desc).map (fun d => d.parameters.length) = some As.length) (hR : (8 * dd + 8) + 1 ≤ R.frames ∧ 8 + (maxL + 11) + (120 * dd + 200) ≤ R.locals) (hst : st0 = As.reverse ++ st) (hcat : (st.map fun v => v.category).sum ≤ 8) (d : decode cc pc = .ok (.invokestatic idx, 3)) (hf9 : k + mc ≤ R.cells ∧ n + ms ≤ R.slots)
    (kk : ∀ (v : Option Value) (w' : Wd), post v w' → J p l e R s m args below meth c Q D base nL (k + mc) (n + ms) (pc + 3) lv (v.toList ++ st) w') : J p l e R s m args below meth c Q D base nL k n pc lv st0 w := by
  intro ls H locs hl hP hS
  obtain ⟨f1, f2, f3, f4, f5, f6⟩ := hf
  obtain ⟨hx, hb, hml, hown, hts, hG, -⟩ := X
  have hpre := jj_pre (w := w) hG hP hS As
  have hGw : ∀ w ∈ (Cond.codeWith z b maxL rt hh :: BG), w ∈ BG ∧ ((w.onTables && w.keeps) = true ∨ ∃ ty, w = .arrayClass ty) := by
    intro w hw
    have hw2 : w ∈ BG := by
      rcases List.mem_cons.mp hw with rfl | h
      · exact f4
      · exact h
    exact BG_ok (fun _ h => h) w hw2
  have cw : vx_CSW R s args y.cls idx z b maxL rt hh (.codeWith z b maxL rt hh :: BG) (Rm dd mc ms) mc ms As.length := by
    refine ⟨⟨rfl, rfl, hR.1, hR.2, pay_in hts hGw, List.mem_cons_self⟩, hts _ f4, hts _ f3, f5, fun sig h => ?_, hts _ f1, hts _ f2⟩
    rw [h] at f6
    exact (Option.some.inj f6).symm
  exact jj_go hl (vx_runSX (As := As) (rest := st) ⟨hx, hb, hml, hown, hts⟩ hM cw hpre rfl rfl hl.1 hst (lv_room hcat) d hf9) hS (fun _ _ h => h.elim) kk
theorem j_i2lR (X : Cx p l s m args meth c y cc nL ret D ca base) {a : Int32} (d : decode cc pc = .ok (.i2l, 1)) (hq : pc + 1 = q) (kk : J p l e R s m args below meth c Q D base nL k n q lv (.long a.toInt64 :: st) w) : J p l e R s m args below meth c Q D base nL k n pc lv (.int a :: st) w := by
  subst hq
  exact fun ls H locs hl hP hS => lv_i2l X.1 X.2.1 d rfl (kk ls H locs hl hP hS)
theorem cmp_self (x : Int64) : lg_cmp x x = iI 0 := by
  have h1 := Int64.le_toInt x
  have h2 := Int64.toInt_lt x
  have h := lg_cmpI (a := x.toInt) (b := x.toInt) (by omega) (by omega)
  rw [show iL x.toInt = x from Int64.ofInt_toInt x, cmpI_0.mpr rfl] at h
  exact h
theorem j_lcmpE (X : Cx p l s m args meth c y cc nL ret D ca base) {a : Int64} (d : decode cc pc = .ok (.lcmp, 1)) (hq : pc + 1 = q) (kk : J p l e R s m args below meth c Q D base nL k n q lv (.int (iI 0) :: st) w) : J p l e R s m args below meth c Q D base nL k n pc lv (.long a :: .long a :: st) w := by
  subst hq
  exact fun ls H locs hl hP hS => W.lcmp X.1 X.2.1 d (by rw [cmp_self a]; exact kk ls H locs hl hP hS)
theorem j_slen (X : Cx p l s m args meth c y cc nL ret D ca base) {b L : Nat} {xs : Nat → Int32} (hX : va_X b L xs s s.heap) (hbl : b < s.heap.size) (hbA : ¬ base ≤ b) (d : decode cc pc = .ok (.arraylength, 1)) (hq : pc + 1 = q) (kk : J p l e R s m args below meth c Q D base nL k n q lv (.int (iI L) :: st) w) : J p l e R s m args below meth c Q D base nL k n pc lv (.ref b :: st) w := by
  subst hq
  intro ls H locs hl hP hS
  exact va_slen X.1 X.2.1 hX hbl hbA hS d (by rw [← Int32.ofInt_eq_ofNat]; exact kk ls H locs hl hP hS)
theorem j_sld (X : Cx p l s m args meth c y cc nL ret D ca base) {b L : Nat} {xs : Nat → Int32} {i : Int} (hX : va_X b L xs s s.heap) (hbl : b < s.heap.size) (hbA : ¬ base ≤ b) (hi : 0 ≤ i ∧ i < (L : Int)) (hL : L < 2147483648) (d : decode cc pc = .ok (.iaload, 1)) (hq : pc + 1 = q) (kk : J p l e R s m args below meth c Q D base nL k n q lv (.int (xs i.toNat) :: st) w) : J p l e R s m args below meth c Q D base nL k n pc lv (.int (iI i) :: .ref b :: st) w := by
  subst hq
  intro ls H locs hl hP hS
  exact va_sld X.1 X.2.1 hX hbl hbA hS (iI_in hi hL) d (by rw [iI_cl (by omega)]; exact kk ls H locs hl hP hS)
end LROWS
