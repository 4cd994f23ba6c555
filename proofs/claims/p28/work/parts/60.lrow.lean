/-! ===== the law's own cells: a table of 37 ints; the script ===== -/
abbrev tc (g : Int → Int) : Nat → Int32 := fun (j : Nat) => iI (g (j : Int))
abbrev eT (ca : Nat → ClassId) (g : Int → Int) : va_E := .inl (ca 0, 37, .inl (tc g))
def gs (g : Int → Int) (i v : Int) : Int → Int := fun j => if j = i then v else g j
theorem gs_s {g : Int → Int} {i v : Int} : gs g i v i = v := if_pos rfl
theorem gs_n {g : Int → Int} {i j v : Int} (h : j ≠ i) : gs g i v j = g j := if_neg h
/-- what the table says: how many, and of each its reference, tolerance and own uncertainty -/
def TA (n : Int) (S : St) (g : Int → Int) : Prop := g 36 = n ∧ ∀ k, 0 ≤ k → k < n → g k = S 14 k ∧ g (12 + k) = S 11 k ∧ g (24 + k) = S 12 k
theorem and_pos (x : Int32) : ∃ z : Int, x &&& iI 2147483647 = iI z ∧ (0 ≤ z ∧ z ≤ 2147483647) := by
  refine ⟨(x &&& iI 2147483647).toInt, (Int32.ofInt_toInt _).symm, ?_, ?_⟩
  · show 0 ≤ (x &&& iI 2147483647).toBitVec.toInt
    rw [Int32.toBitVec_and, BitVec.toInt_eq_msb_cond, BitVec.msb_and]
    have h : (iI 2147483647).toBitVec.msb = false := by decide
    rw [h, Bool.and_false, if_neg (by decide)]
    exact Int.natCast_nonneg _
  · have := Int32.toInt_lt (x &&& iI 2147483647)
    omega
theorem tm_b {a b : Int} (ha : 0 ≤ a) (hb : 1 ≤ b) : 0 ≤ a.tmod b ∧ a.tmod b < b := by
  rw [Int.tmod_eq_emod_of_nonneg ha]
  exact ⟨Int.emod_nonneg a (by omega), Int.emod_lt_of_pos a (by omega)⟩
theorem td_b {a b : Int} (ha : 0 ≤ a) (hb : 1 ≤ b) : 0 ≤ a.tdiv b ∧ a.tdiv b ≤ a := by
  rw [Int.tdiv_eq_ediv_of_nonneg ha]
  exact ⟨Int.ediv_nonneg ha (by omega), Int.ediv_le_self b ha⟩
theorem i32 (x : Int32) : ∃ z : Int, x = iI z ∧ (-2147483648 ≤ z ∧ z ≤ 2147483647) := ⟨x.toInt, (Int32.ofInt_toInt x).symm, by have := Int32.le_toInt x; have := Int32.toInt_lt x; omega⟩
section LROWS
variable {p : Program} {l : Launch} {e : Env} {R : Room} {s : State} {m : MethodId} {args : Array Value} {below : List Frame} {meth : Method} {c : Code} {Q : State → Prop} {D : va_G} {ca : Nat → ClassId} {base nL k n pc q : Nat} {lv lv' : List (Nat × Value)} {st : List Value} {w : Wd} {y : MethodName} {cc : ByteArray} {ret : Option FieldType}
theorem j_tld (X : Cx p l s m args meth c y cc nL ret D ca base) {o : Nat} {g : Int → Int} {i : Int} (hw : w o = some (eT ca g)) (hi : 0 ≤ i ∧ i < 37) (d : decode cc pc = .ok (.iaload, 1)) (hq : pc + 1 = q) (kk : J p l e R s m args below meth c Q D base nL k n q lv (.int (iI (g i)) :: st) w) : J p l e R s m args below meth c Q D base nL k n pc lv (.int (iI i) :: .ref o :: st) w := by
  refine j_iald X hw ⟨hi.1, by omega⟩ (by decide) d hq ?_
  rw [show tc g i.toNat = iI (g i) from by show iI (g (i.toNat : Int)) = _; rw [Int.toNat_of_nonneg hi.1]]
  exact kk
theorem j_tst (X : Cx p l s m args meth c y cc nL ret D ca base) {o : Nat} {g : Int → Int} {i v : Int} (hw : w o = some (eT ca g)) (hi : 0 ≤ i ∧ i < 37) (hbo : base ≤ o) (d : decode cc pc = .ok (.iastore, 1)) (hq : pc + 1 = q) (kk : ∀ w' : Wd, Fr 1 w w' → w' o = some (eT ca (gs g i v)) → J p l e R s m args below meth c Q D base nL k n q lv st w') : J p l e R s m args below meth c Q D base nL k n pc lv (.int (iI v) :: .int (iI i) :: .ref o :: st) w := by
  refine j_iast X hw ⟨hi.1, by omega⟩ (by decide) hbo d hq ?_
  refine kk _ (Fr.set hw rfl) ?_
  rw [wu_s]
  congr 5
  funext j
  unfold va_up tc gs
  by_cases h : j = i.toNat
  · rw [if_pos h, if_pos (by omega)]
  · rw [if_neg h, if_neg (by omega)]
theorem j_slen (X : Cx p l s m args meth c y cc nL ret D ca base) {b L : Nat} {xs : Nat → Int32} (hX : va_X b L xs s s.heap) (hbl : b < s.heap.size) (hbA : ¬ base ≤ b) (d : decode cc pc = .ok (.arraylength, 1)) (hq : pc + 1 = q) (kk : J p l e R s m args below meth c Q D base nL k n q lv (.int (iI L) :: st) w) : J p l e R s m args below meth c Q D base nL k n pc lv (.ref b :: st) w := by
  subst hq
  intro ls H locs hl hP hS
  exact va_slen X.1 X.2.1 hX hbl hbA hS d (by rw [← Int32.ofInt_eq_ofNat]; exact kk ls H locs hl hP hS)
theorem j_sld (X : Cx p l s m args meth c y cc nL ret D ca base) {b L : Nat} {xs : Nat → Int32} {i : Int} (hX : va_X b L xs s s.heap) (hbl : b < s.heap.size) (hbA : ¬ base ≤ b) (hi : 0 ≤ i ∧ i < (L : Int)) (hL : L < 2147483648) (d : decode cc pc = .ok (.iaload, 1)) (hq : pc + 1 = q) (kk : J p l e R s m args below meth c Q D base nL k n q lv (.int (xs i.toNat) :: st) w) : J p l e R s m args below meth c Q D base nL k n pc lv (.int (iI i) :: .ref b :: st) w := by
  subst hq
  intro ls H locs hl hP hS
  exact va_sld X.1 X.2.1 hX hbl hbA hS (iI_in hi hL) d (by rw [iI_cl (by omega)]; exact kk ls H locs hl hP hS)
end LROWS
/-- a contract of a method that reads the script too -/
def CTX (l : Launch) (D : va_G) (ca : Nat → ClassId) (base b L : Nat) (xs : Nat → Int32) (y : MethodName) (bb : ByteArray) (maxL : Nat) (ret : Option FieldType) (d mc ms : Nat) (av : List Value) (w : Wd) (post : Option Value → Wd → Prop) : Prop :=
  vx_Met l y (.code y bb maxL ret :: BG) (Rm d mc ms) (va_Pc av (fun U => GI D ca base U U.heap ∧ HP D w U.heap ∧ va_X b L xs U U.heap ∧ b < U.heap.size)) (Qn D base post) (Xn D base (fun _ _ => False)) mc ms (fun q => base ≤ q)
theorem CTX.mk {l : Launch} (hlt : l.stackTraces = false) {D : va_G} {ca : Nat → ClassId} {base b L : Nat} {xs : Nat → Int32} {y : MethodName} {bb : ByteArray} {maxL : Nat} {ret : Option FieldType} {d mc ms : Nat} {av : List Value} {w : Wd} {post : Option Value → Wd → Prop} (hy : plainFor y = true) (hlen : (lg_sl av).length ≤ maxL)
    (body : ∀ (p : Program) (e : Env) (s : State) (m : MethodId) (args : Array Value) (below : List Frame) (meth : Method) (c : Code), Cx p l s m args meth c y bb maxL ret D ca base → va_X b L xs s s.heap → b < s.heap.size → J p l e (Rm d mc ms) s m args below meth c (vx_MQ below (Qn D base post) (Xn D base (fun _ _ => False)) args s mc ms (fun q => base ≤ q)) D base maxL 0 0 0 (lv_args 0 av) [] w) : CTX l D ca base b L xs y bb maxL ret d mc ms av w post := by
  refine jj_ofW (cc := bb) (maxL := maxL) (ret := ret) hy rfl ?_
  intro p e s m args below meth c s₁ B hml htab hv
  obtain ⟨rfl, hG, hP, hX, hbl⟩ := hv
  have hts := atoms_spec (ws := Cond.code y bb maxL ret :: BG) B.pre
  have X : Cx p l s m av.toArray meth c y bb maxL ret D ca base := ⟨B.exec, B.bytes, hml, findClass_of_methodNamed B.named, fun w hw => hts w (List.mem_cons_of_mem _ hw), hG, B.notSynchronized, hlt, B.returns, (name_of_methodNamed B.named B.method).1⟩
  have h := body p e s m av.toArray below meth c X hX hbl _ s.heap [] (lv_entry av hlen) hP va_S.rf
  rw [lg_entry_eq]
  exact h
section LROWS2
variable {p : Program} {l : Launch} {e : Env} {R : Room} {s : State} {m : MethodId} {args : Array Value} {below : List Frame} {meth : Method} {c : Code} {Q : State → Prop} {D : va_G} {ca : Nat → ClassId} {base nL k n pc q : Nat} {lv lv' : List (Nat × Value)} {st : List Value} {w : Wd} {y : MethodName} {cc : ByteArray} {ret : Option FieldType}
theorem j_callSX (X : Cx p l s m args meth c y cc nL ret D ca base) {b L : Nat} {xs : Nat → Int32} (hX : va_X b L xs s s.heap) (hbl : b < s.heap.size) (hbA : ¬ base ≤ b) {idx : Nat} {z : MethodName} {bb : ByteArray} {maxL : Nat} {rt : Option FieldType} {dd mc ms : Nat} {As : List Value} {post : Option Value → Wd → Prop} {st0 : List Value} (hM : CTX l D ca base b L xs z bb maxL rt dd mc ms As w post) (hf : SS y.cls idx z bb maxL rt As.length) (hR : (8 * dd + 8) + 1 ≤ R.frames ∧ 8 + (maxL + 11) + (120 * dd + 200) ≤ R.locals) (hst : st0 = As.reverse ++ st) (hcat : (st.map fun v => v.category).sum ≤ 8) (d : decode cc pc = .ok (.invokestatic idx, 3)) (hf9 : k + mc ≤ R.cells ∧ n + ms ≤ R.slots)
    (kk : ∀ (v : Option Value) (w' : Wd), post v w' → J p l e R s m args below meth c Q D base nL (k + mc) (n + ms) (pc + 3) lv (v.toList ++ st) w') : J p l e R s m args below meth c Q D base nL k n pc lv st0 w := by
  intro ls H locs hl hP hS
  obtain ⟨f1, f2, f4, f5, f6, f7⟩ := hf
  obtain ⟨hx, hb, hml, hown, hts, hG, -⟩ := X
  have hpre : FrameBlind (va_Pc As (fun U => GI D ca base U U.heap ∧ HP D w U.heap ∧ va_X b L xs U U.heap ∧ b < U.heap.size)) ∧ ∀ U : State, U.heap = H → s.WarmedH U.vm → va_Pc As (fun U => GI D ca base U U.heap ∧ HP D w U.heap ∧ va_X b L xs U U.heap ∧ b < U.heap.size) As.toArray U := by
    refine ⟨fun a U g mk h => ⟨h.1, GI.same (s := U) rfl h.2.1, h.2.2.1, va_X.moved (u := U) (Vm.Alike.refl U.vm) h.2.2.2.1, h.2.2.2.2⟩, fun U hU hW => ⟨rfl, ?_, by rw [hU]; exact hP, ?_, ?_⟩⟩
    · rw [hU]
      exact (hG.kept hS.1 (fun q h1 h2 => hS.2.1 q h1 h2)).warm hW
    · rw [hU]
      exact va_X.moved hW.alike (hX.kept (hS.2.1 b hbl hbA))
    · rw [hU]
      exact Nat.lt_of_lt_of_le hbl hS.1
  exact jj_go hl (vx_runS (As := As) (rest := st) ⟨hx, hb, hml, hown, hts⟩ hM ⟨jj_cb hts f1 f4 f5 f6 f7 hR, hts _ f2⟩ hpre rfl rfl hl.1 hst (lv_room hcat) d hf9) hS (fun _ _ h => h.elim) kk
end LROWS2
