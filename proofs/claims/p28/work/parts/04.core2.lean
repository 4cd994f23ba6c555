/-! ===== BEGIN a constructor that throws (launches without stack traces) ===== -/
section VXIA
variable {p : Program} {l : Launch} {e : Env} {R : Room} {s : State} {m : MethodId} {args : Array Value} {below : List Frame} {meth : Method} {c : Code} {T : State} {locs : List Loc} {cells slots : Nat}
theorem vx_callI (X : Stand p l e R s m args below meth c T locs cells slots) (hexec : p.tables.exec = Jvm.exec) {own : String} {index : Nat} {y : MethodName} {bytes : ByteArray} {maxL : Nat}
    (hown : s.vm.findClass own = some m.cls) (hy1 : y.name = "<init>") (hlink : (Cond.methodLink own index y).before args s = true) (hinst : (Cond.instanceMethod y).before args s = true)
    (hcode : (Cond.code y bytes maxL none).before args s = true) (hy : y.cls ≠ "java/lang/invoke/MethodHandle" ∧ y.cls ≠ "java/lang/invoke/VarHandle")
    {W9 : Nat} {Pre : Pt → Array Value → Prop} {Post : Pt → Array Value → Option Value → Pt → Prop} {PostX : Pt → Array Value → Addr → Pt → Prop} (hK : vx_Back l R p e below s args y 3 W9 Pre Post PostX)
    {g : JFrame} (hg : g.method = m) (hsize : g.locals.size = c.maxLocals) {a : Addr} {argsL rest : List Value} (hlen : ∀ sig, parseMethodDescriptor y.desc = some sig → argsL.length = sig.parameters.length)
    (hstack : g.stack = argsL.reverse ++ .ref a :: rest) (hW : 2 * g.monitorRoom + (rest.map fun v => v.category).sum ≤ W9) (hdg : decode c.code g.pc = .ok (.invokespecial index, 3))
    (hpre : ∀ vm₁, s.WarmedH vm₁ → Pre ⟨T.setVm vm₁, locs, cells, slots⟩ (Value.ref a :: argsL).toArray) :
    (∃ (v : Option Value) (vm₁ : Vm) (B : Pt), s.WarmedH vm₁ ∧ Stand p l e R s m args below meth c B.U B.locs B.cells B.slots ∧ Post ⟨T.setVm vm₁, locs, cells, slots⟩ (Value.ref a :: argsL).toArray v B ∧
      ∀ target, Steps p.tables e below (B.U.setTop { g with pc := g.pc + 3, stack := v.toList ++ rest }) target → Steps p.tables e below (T.setTop g) target) ∨
    (∃ (q : Addr) (vm₁ : Vm) (B : Pt), s.WarmedH vm₁ ∧ Stand p l e R s m args below meth c B.U B.locs B.cells B.slots ∧ PostX ⟨T.setVm vm₁, locs, cells, slots⟩ (Value.ref a :: argsL).toArray q B ∧
      Steps p.tables e below (T.setTop g) ((B.U.setTop { g with stack := rest }).pushFrame (.throwing q))) := by
  subst hg
  have hpl : e.platform.magicAccessors = ({} : Platform).magicAccessors := by rw [X.admits.platform]
  obtain ⟨mk, methM, cM, kP, vm₁, hnamed, hmethM, hcodeM, -, hlocalsM, -, hkP, -, hW₁, hstep₁⟩ := Steps.initColdArgs (e := e) X.here hexec X.warmed hpl hown hy1 hy hlink hinst hcode (f := g) rfl hlen hstack hdg
  have X₁ := X.noted hW₁
  rcases hK g.method meth c ⟨T.setVm vm₁, locs, cells, slots⟩ { g with stack := rest } (.invokespecial index) mk (Value.ref a :: argsL).toArray X₁ rfl hsize hdg hW (X₁.named hnamed) (hpre vm₁ X₁.warmed) with ⟨v, B, X', hpost, hsteps⟩ | ⟨q, B, X', hpost, hsteps⟩
  · exact Or.inl ⟨v, vm₁, B, X₁.warmed, X', hpost, fun target h => hstep₁ _ fun acts => by rw [doInvoke_state]; exact hsteps.trans h⟩
  · exact Or.inr ⟨q, vm₁, B, X₁.warmed, X', hpost, hstep₁ _ fun acts => by rw [doInvoke_state]; exact hsteps⟩
end VXIA
section VXIB
variable {p : Program} {l : Launch} {e : Env} {R : Room} {s : State} {m : MethodId} {args : Array Value} {below : List Frame} {meth : Method} {c : Code} {H : Heap} {locs : List Loc} {cells slots : Nat}
variable {y : MethodName} {bytes cc : ByteArray} {maxL nL mc ms n index : Nat} {ret : Option FieldType} {ws : List Cond} {rm : Room} {Pc : Array Value → State → Prop} {Qc : Array Value → State → Outcome → State → Prop} {XC : String → State → State → Prop} {free : Addr → Prop} {Ts : List Cond} {own C : String} {b : Addr} {As rest : List Value} {g : JFrame}
theorem vx_runI (S : CallFix p m c cc nL s args Ts own) (hM : vx_Met l y ws rm Pc Qc XC mc ms free) (cw : CallB R s args own index y bytes maxL none ws rm mc ms n ∧ y.name = "<init>" ∧ (Cond.instanceMethod y).before args s = true) (hp : PreS s H Pc (.ref b :: As))
    (hg : g.method = m) (hn : As.length = n) (hsize : g.locals.size = nL) (hstack : g.stack = As.reverse ++ .ref b :: rest) (hW : 2 * g.monitorRoom + (rest.map fun v => v.category).sum ≤ 8) (hdg : decode cc g.pc = .ok (.invokespecial index, 3)) (hf : cells + mc ≤ R.cells ∧ slots + ms ≤ R.slots) :
    vx_Run p l e R s m args below meth c H locs cells slots mc ms g rest (Qc (Value.ref b :: As).toArray) XC free := by
  have hK : vx_Back l R p e below s args y 3 8 (PreOf R mc ms Pc) (PostOf Qc mc ms free) (vx_Post XC mc ms free) := vx_callBack cw.1 hM hp.1
  obtain ⟨⟨-, -, -, -, -, -, hcode, -, hy, hlen, hl⟩, hy1, hin⟩ := cw
  obtain ⟨hx, hb, hml, ho, -⟩ := S
  have hPc := hp.2
  intro T hT X
  rcases vx_callI X hx (bytes := bytes) (maxL := maxL) ho hy1 hl hin hcode hy hK hg (hsize.trans hml.symm) (a := b) (argsL := As) (rest := rest) (fun sig h => hn.trans (hlen sig h)) hstack hW (by rw [hb]; exact hdg)
    (fun vm₁ hW₁ => ⟨hf.1, hf.2, hPc (T.setVm vm₁) hT hW₁⟩) with ⟨v, vm₁, ⟨U', l2, c2, s2⟩, hW₁, X', ⟨g', mk, t, L, e1, e2, hq, h1, hL, h2, h3⟩, st⟩ | ⟨q, vm₁, ⟨U', l2, c2, s2⟩, hW₁, X', ⟨g', mk, t, L, E, ce, e1, e2, hq, hce, hcv, hcl, h1, hL, h2, h3⟩, st⟩
  · dsimp only [Pt.U, Pt.locs, Pt.cells, Pt.slots] at X' e1 e2 h1 h2 h3 st
    subst h1; subst h2; subst h3
    exact Or.inl ⟨v, (T.setVm vm₁).calling g' mk (Value.ref b :: As).toArray, t, U', L, hT, X', hL, e1, e2, hq, st⟩
  · dsimp only [Pt.U, Pt.locs, Pt.cells, Pt.slots] at X' e1 e2 h1 h2 h3 st hcl
    subst h1; subst h2; subst h3
    exact Or.inr ⟨q, (T.setVm vm₁).calling g' mk (Value.ref b :: As).toArray, t, U', L, E, ce, hT, X', hL, e1, e2, hq, hce, hcv, vx_cls hW₁ hcl, st⟩
end VXIB
/-! ===== END ===== -/
section JROWS2
variable {p : Program} {l : Launch} {e : Env} {R : Room} {s : State} {m : MethodId} {args : Array Value} {below : List Frame} {meth : Method} {c : Code} {Q : State → Prop} {D : va_G} {ca : Nat → ClassId} {base nL k n pc q : Nat} {lv lv' : List (Nat × Value)} {st : List Value} {w : Wd} {y : MethodName} {cc : ByteArray} {ret : Option FieldType}
def cmpI (a b : Int) : Int := if b < a then 1 else if a = b then 0 else -1
theorem cmpI_r (a b : Int) : -2147483648 ≤ cmpI a b ∧ cmpI a b ≤ 2147483647 := by
  unfold cmpI
  split
  · decide
  · split <;> decide
theorem cmpI_0 {a b : Int} : cmpI a b = 0 ↔ a = b := by
  unfold cmpI
  split
  · constructor <;> intro h <;> omega
  · split
    · simp_all
    · constructor <;> intro h <;> omega
theorem cmpI_le {a b : Int} : cmpI a b ≤ 0 ↔ a ≤ b := by
  unfold cmpI
  split
  · constructor <;> intro h <;> omega
  · split <;> constructor <;> intro h <;> omega
theorem cmpI_ge {a b : Int} : 0 ≤ cmpI a b ↔ b ≤ a := by
  unfold cmpI
  split
  · constructor <;> intro h <;> omega
  · split <;> constructor <;> intro h <;> omega
theorem cmpI_gt {a b : Int} : 0 < cmpI a b ↔ b < a := by
  unfold cmpI
  split
  · constructor <;> intro h <;> omega
  · split <;> constructor <;> intro h <;> omega
theorem cmpI_lt {a b : Int} : cmpI a b < 0 ↔ a < b := by
  unfold cmpI
  split
  · constructor <;> intro h <;> omega
  · split <;> constructor <;> intro h <;> omega
theorem lg_cmpI {a b : Int} (ha : -9223372036854775808 ≤ a ∧ a ≤ 9223372036854775807) (hb : -9223372036854775808 ≤ b ∧ b ≤ 9223372036854775807) : lg_cmp (iL a) (iL b) = iI (cmpI a b) := by
  unfold lg_cmp cmpI
  have h1 : (iL a > iL b) ↔ b < a := iL_lt hb ha
  have h2 : (iL a = iL b) ↔ a = b := ⟨fun h => by have := congrArg Int64.toInt h; rwa [iL_T ha, iL_T hb] at this, fun h => by rw [h]⟩
  by_cases c1 : b < a
  · rw [if_pos (h1.mpr c1), if_pos c1]
    rfl
  · rw [if_neg (fun z => c1 (h1.mp z)), if_neg c1]
    by_cases c2 : a = b
    · rw [if_pos (h2.mpr c2), if_pos c2]
      rfl
    · rw [if_neg (fun z => c2 (h2.mp z)), if_neg c2]
      rfl
theorem iI_nI (x : Nat) : iI (x : Int) = nI x := Int32.ofInt_eq_ofNat
theorem iL_tmod {a b : Int} (ha : -9223372036854775808 ≤ a ∧ a ≤ 9223372036854775807) (hb : 1 ≤ b ∧ b ≤ 9223372036854775807) : iL (a.tmod b) = iL a - iL a / iL b * iL b := by
  have h1 : iL (a.tdiv b) = iL a / iL b := Int64.ofInt_tdiv ha.1 ha.2 (by show (-9223372036854775808 : Int) ≤ b; omega) hb.2
  rw [← h1, Int.tmod_def, Int.mul_comm b]
  show Int64.ofInt (a - a.tdiv b * b) = _
  rw [Int64.ofInt_sub, Int64.ofInt_mul]
theorem iI_shl1 : ∀ k : Nat, k < 31 → iI 1 <<< (iI (k : Int) &&& 31) = iI ((2 ^ k : Nat) : Int) := by decide +kernel
theorem iI_shr {x k : Nat} (hx : x < 2147483648) (hk : k < 32) : iI (x : Int) >>> (iI (k : Int) &&& 31) = iI ((x / 2 ^ k : Nat) : Int) := by
  rw [iI_nI, iI_nI, iI_nI]
  have h : ∀ k : Nat, k < 32 → ((nI k &&& 31).toBitVec.smod 32).toNat = k := by decide +kernel
  exact pk_shrN hx _ k (h k hk)
theorem iI_and1 {x : Nat} (hx : x < 2147483648) : iI (x : Int) &&& iI 1 = iI ((x % 2 : Nat) : Int) := by
  rw [iI_nI, iI_nI]
  exact pk_andN (by omega) 1 rfl
theorem iI_or (a b : Nat) : iI (a : Int) ||| iI (b : Int) = iI ((a ||| b : Nat) : Int) := by
  rw [iI_nI, iI_nI, iI_nI]
  apply Int32.toBitVec.inj
  rw [Int32.toBitVec_or]
  show BitVec.ofNat 32 a ||| BitVec.ofNat 32 b = BitVec.ofNat 32 (a ||| b)
  apply BitVec.eq_of_toNat_eq
  simp only [BitVec.toNat_or, BitVec.toNat_ofNat]
  exact (Nat.or_mod_two_pow).symm
theorem j_lcmp (X : Cx p l s m args meth c y cc nL ret D ca base) {a b : Int} (ha : -9223372036854775808 ≤ a ∧ a ≤ 9223372036854775807) (hb : -9223372036854775808 ≤ b ∧ b ≤ 9223372036854775807) (d : decode cc pc = .ok (.lcmp, 1)) (hq : pc + 1 = q) (kk : J p l e R s m args below meth c Q D base nL k n q lv (.int (iI (cmpI a b)) :: st) w) : J p l e R s m args below meth c Q D base nL k n pc lv (.long (iL b) :: .long (iL a) :: st) w := by
  subst hq
  intro ls H locs hl hP hS
  exact W.lcmp X.1 X.2.1 d (by rw [lg_cmpI ha hb]; exact kk ls H locs hl hP hS)
theorem j_lrem (X : Cx p l s m args meth c y cc nL ret D ca base) {a b : Int} (ha : -9223372036854775808 ≤ a ∧ a ≤ 9223372036854775807) (hb : 1 ≤ b ∧ b ≤ 9223372036854775807) (d : decode cc pc = .ok (.lrem, 1)) (hq : pc + 1 = q) (kk : J p l e R s m args below meth c Q D base nL k n q lv (.long (iL (a.tmod b)) :: st) w) : J p l e R s m args below meth c Q D base nL k n pc lv (.long (iL b) :: .long (iL a) :: st) w := by
  subst hq
  intro ls H locs hl hP hS
  exact lv_lrem X.1 X.2.1 d (fun z => by have := congrArg Int64.toInt z; rw [iL_z, iL_T (by omega), iL_T (by omega)] at this; omega) (by rw [← iL_tmod ha hb]; exact kk ls H locs hl hP hS)
theorem j_lxor (X : Cx p l s m args meth c y cc nL ret D ca base) {a b : Int64} (d : decode cc pc = .ok (.lxor, 1)) (hq : pc + 1 = q) (kk : J p l e R s m args below meth c Q D base nL k n q lv (.long (a ^^^ b) :: st) w) : J p l e R s m args below meth c Q D base nL k n pc lv (.long b :: .long a :: st) w := by
  subst hq
  intro ls H locs hl hP hS
  exact lv_lxor X.1 X.2.1 d (kk ls H locs hl hP hS)
theorem j_ishl (X : Cx p l s m args meth c y cc nL ret D ca base) {a b v : Int32} (hv : a <<< (b &&& 31) = v) (d : decode cc pc = .ok (.ishl, 1)) (hq : pc + 1 = q) (kk : J p l e R s m args below meth c Q D base nL k n q lv (.int v :: st) w) : J p l e R s m args below meth c Q D base nL k n pc lv (.int b :: .int a :: st) w := by
  subst hq
  intro ls H locs hl hP hS
  exact lv_ishl X.1 X.2.1 d (by rw [hv]; exact kk ls H locs hl hP hS)
theorem j_ishr (X : Cx p l s m args meth c y cc nL ret D ca base) {a b v : Int32} (hv : a >>> (b &&& 31) = v) (d : decode cc pc = .ok (.ishr, 1)) (hq : pc + 1 = q) (kk : J p l e R s m args below meth c Q D base nL k n q lv (.int v :: st) w) : J p l e R s m args below meth c Q D base nL k n pc lv (.int b :: .int a :: st) w := by
  subst hq
  intro ls H locs hl hP hS
  exact lv_ishr X.1 X.2.1 d (by rw [hv]; exact kk ls H locs hl hP hS)
theorem j_iand (X : Cx p l s m args meth c y cc nL ret D ca base) {a b v : Int32} (hv : a &&& b = v) (d : decode cc pc = .ok (.iand, 1)) (hq : pc + 1 = q) (kk : J p l e R s m args below meth c Q D base nL k n q lv (.int v :: st) w) : J p l e R s m args below meth c Q D base nL k n pc lv (.int b :: .int a :: st) w := by
  subst hq
  intro ls H locs hl hP hS
  exact lv_iand X.1 X.2.1 d (by rw [hv]; exact kk ls H locs hl hP hS)
theorem j_ior (X : Cx p l s m args meth c y cc nL ret D ca base) {a b v : Int32} (hv : a ||| b = v) (d : decode cc pc = .ok (.ior, 1)) (hq : pc + 1 = q) (kk : J p l e R s m args below meth c Q D base nL k n q lv (.int v :: st) w) : J p l e R s m args below meth c Q D base nL k n pc lv (.int b :: .int a :: st) w := by
  subst hq
  intro ls H locs hl hP hS
  exact lv_ior X.1 X.2.1 d (by rw [hv]; exact kk ls H locs hl hP hS)
theorem j_l2d (X : Cx p l s m args meth c y cc nL ret D ca base) {a : Int64} (d : decode cc pc = .ok (.l2d, 1)) (hq : pc + 1 = q) (kk : J p l e R s m args below meth c Q D base nL k n q lv (.double (FP.l2d a) :: st) w) : J p l e R s m args below meth c Q D base nL k n pc lv (.long a :: st) w := by
  subst hq
  intro ls H locs hl hP hS
  exact lv_l2d X.1 X.2.1 d (kk ls H locs hl hP hS)
theorem j_ddiv (X : Cx p l s m args meth c y cc nL ret D ca base) {a b : UInt64} (hne : vf_n64 (FP.ddiv a b)) (d : decode cc pc = .ok (.ddiv, 1)) (hq : pc + 1 = q) (kk : J p l e R s m args below meth c Q D base nL k n q lv (.double (FP.ddiv a b) :: st) w) : J p l e R s m args below meth c Q D base nL k n pc lv (.double b :: .double a :: st) w := by
  subst hq
  intro ls H locs hl hP hS
  exact lv_ddiv X.1 X.2.1 d hne (kk ls H locs hl hP hS)
theorem j_dcmp (X : Cx p l s m args meth c y cc nL ret D ca base) {a b : UInt64} {op : CmpOp} (d : decode cc pc = .ok (.dcmp op, 1)) (hq : pc + 1 = q) (kk : J p l e R s m args below meth c Q D base nL k n q lv (.int (Op.cmpValue (FP.dcmp a b) op) :: st) w) : J p l e R s m args below meth c Q D base nL k n pc lv (.double b :: .double a :: st) w := by
  subst hq
  intro ls H locs hl hP hS
  exact lv_dcmp X.1 X.2.1 d (kk ls H locs hl hP hS)
theorem j_aast (X : Cx p l s m args meth c y cc nL ret D ca base) {a N t v ci : Nat} {r : vw_C} {vs : List Value} {f : Nat → Option Nat} {i : Int} (ht : (tysOf ca)[t]? = some (ca t, .object r.1)) (he : w a = some (.inl (ca t, N, .inr (.inr (.inr (.inr f)))))) (hv : w v = some (.inr (ci, vs))) (hc : vwCl[ci]? = some r) (hi : 0 ≤ i ∧ i < (N : Int)) (hN : N < 2147483648) (hba : base ≤ a) (d : decode cc pc = .ok (.aastore, 1)) (hq : pc + 1 = q) (kk : J p l e R s m args below meth c Q D base nL k n q lv st (wu w a (.inl (ca t, N, .inr (.inr (.inr (.inr (va_up f i.toNat (some v))))))))) : J p l e R s m args below meth c Q D base nL k n pc lv (.ref v :: .int (iI i) :: .ref a :: st) w := by
  subst hq
  intro ls H locs hl hP hS
  obtain ⟨hx, hb, -, -, -, hG, -⟩ := X
  have hin := iI_in hi hN
  have hK := hG.1
  have hlt : (iI i).toNatClampNeg < N := Nat.not_le.mp fun z => hin (Or.inr z)
  have h0 : ¬ iI i < 0 := fun z => hin (Or.inl z)
  obtain ⟨r', hr', cellV, g1, g2, g3, -⟩ := hP v _ hv
  have hcls := (hK.1 ci r hc).2
  obtain ⟨kA, comp, k1, k2, k3, -⟩ := (hK.2 t _ ht).2
  have hcomp : comp = D.1 ci := Option.some.inj (k3.symm.trans hcls.1)
  subst hcomp
  obtain ⟨kC, hkC, -⟩ := hcls.2
  refine W.aast hx hb (hP a _ he) (fun q h => by cases h) (fun h => by cases h) k1 k2 rfl hkC ⟨h0, by show _ < (arrV _ _ _).slots.size; rw [arrV_size]; exact hlt⟩ g1 (fun q h => by rw [g3] at h; cases h) (by rw [g2]; exact hkC) (by rw [g2]; exact va_assign hcls) rfl rfl d fun H1 e z oq => ?_
  refine kk ls H1 _ hl (hP.set ?_ oq) (hS.put z oq hba)
  show H1[a]? = some (vp_cell _ _)
  rw [e, vp_cell_q, vp_cell_q, arrV_store]
  congr 2
  funext z
  rw [iI_cl (by omega)]
  by_cases hq : z = i.toNat
  · subst hq
    simp [updV, va_up, va_rf]
  · simp [updV, va_up, hq]
theorem j_newa (X : Cx p l s m args meth c y cc nL ret D ca base) {atype : ArrayType} {ty : FieldType} {N t : Nat} {con : vp_A} (ht : (tysOf ca)[t]? = some (ca t, ty)) (hta : newarray.typeOf atype = ty) (hno : ∀ C, ty ≠ .object C) (hw : Cond.arrayClass ty ∈ BG) (hcon : ∀ cA, vp_cell cA con = arrV cA N (fun _ => defaultValue ty)) (hN : N < 100000) (hcb : componentBytes ty ≤ 8) (hck : k + 1 ≤ R.cells) (hcn : n + N ≤ R.slots) (d : decode cc pc = .ok (.newarray atype, 2)) (hq : pc + 2 = q) (kk : ∀ a : Nat, base ≤ a → w a = none → J p l e R s m args below meth c Q D base nL (k + 1) (n + N) q lv (.ref a :: st) (wu w a (.inl (ca t, con)))) : J p l e R s m args below meth c Q D base nL k n pc lv (.int (iI N) :: st) w := by
  subst hq
  subst hta
  intro ls H locs hl hP hS
  obtain ⟨hx, hb, -, -, hts, hG, -⟩ := X
  have hcl : (iI (N : Int)).toNatClampNeg = N := by rw [iI_cl (by omega)]; omega
  have h0 : ¬ iI (N : Int) < 0 := by rw [jz_lt (by omega)]; omega
  refine va_newaK hx hb (hts _ hw) (g := F0 m pc ls _) rfl d rfl h0 hcl (by have := Nat.mul_le_mul (Nat.le_of_lt hN) hcb; omega) hck hcn rfl fun H1 cA e1 z1 o1 hAr hNm => ?_
  have hRA := (hG.1.2 t _ ht).2
  have hcA : cA = ca t := by
    have h9 : s.vm.findClass ("[" ++ (newarray.typeOf atype).toString) = some (ca t) := by
      cases atype <;> exact hRA
    exact Option.some.inj (hNm.symm.trans h9)
  subst hcA
  exact kk H.size (Nat.le_trans hG.2.1 hS.1) hP.fresh ls H1 _ hl (hP.push (by show H1[H.size]? = some (vp_cell _ _); rw [hcon]; exact e1) o1) ⟨Nat.le_trans hS.1 (by omega), fun x h1 h2 => (o1 x (Nat.lt_of_lt_of_le h1 hS.1)).trans (hS.2.1 x h1 h2), hS.2.2⟩
theorem j_newq (X : Cx p l s m args meth c y cc nL ret D ca base) {C : String} {N t idx : Nat} (ht : (tysOf ca)[t]? = some (ca t, .object C)) (hC : C ∈ jAO) (hw : Cond.classLink y.cls idx C ∈ BG) (hN : N < 100000) (hck : k + 1 ≤ R.cells) (hcn : n + N ≤ R.slots) (d : decode cc pc = .ok (.anewarray idx, 3)) (hq : pc + 3 = q) (kk : ∀ a : Nat, base ≤ a → w a = none → J p l e R s m args below meth c Q D base nL (k + 1) (n + N) q lv (.ref a :: st) (wu w a (.inl (ca t, N, .inr (.inr (.inr (.inr (fun _ => none)))))))) : J p l e R s m args below meth c Q D base nL k n pc lv (.int (iI N) :: st) w := by
  subst hq
  intro ls H locs hl hP hS
  obtain ⟨hx, hb, -, hown, hts, hG, -⟩ := X
  have hcl : (iI (N : Int)).toNatClampNeg = N := by rw [iI_cl (by omega)]; omega
  have h0 : ¬ iI (N : Int) < 0 := by rw [jz_lt (by omega)]; omega
  have hK := hG.1
  have hover := hG.2.2.2.2.2.2.2.1 C hC
  obtain ⟨kA, comp, k1, k2, k3, k4⟩ := (hK.2 t _ ht).2
  refine W.anew hx hb hown (hts _ hw) (va_AO.use hover) (g := F0 m pc ls _) rfl d rfl h0 (by rw [hcl]; omega) hck (by rw [hcl]; exact hcn) fun cA kA' comp' f1 f2 f3 f4 => ?_
  have hcA : cA = ca t := Option.some.inj (f1.symm.trans k4)
  subst hcA
  rw [hcl]
  generalize hH1 : H.push ({ cls := ca t, slots := Array.replicate N .null, vm := .none } : Cell) = H1
  have z1 : H1.size = H.size + 1 := by rw [← hH1, Array.size_push]
  have e1 : H1[H.size]? = some (arrV (ca t) N (fun _ => .null)) := by rw [← hH1, Array.getElem?_push_size, ← arrV_new]
  have o1 : ∀ q : Nat, q < H.size → H1[q]? = H[q]? := fun q hq => by rw [← hH1, Array.getElem?_push, if_neg (Nat.ne_of_lt hq)]
  exact kk H.size (Nat.le_trans hG.2.1 hS.1) hP.fresh ls H1 _ hl (hP.push (by show H1[H.size]? = some (vp_cell _ _); rw [vp_cell_q]; exact e1) o1) ⟨Nat.le_trans hS.1 (by omega), fun x h1 h2 => (o1 x (Nat.lt_of_lt_of_le h1 hS.1)).trans (hS.2.1 x h1 h2), hS.2.2⟩
theorem j_objInit (X : Cx p l s m args meth c y cc nL ret D ca base) {idx a : Nat} (hw : Cond.methodLink y.cls idx Lib.objectInit ∈ BG) (hw2 : Cond.instanceMethod Lib.objectInit ∈ BG) (hw3 : Cond.code Lib.objectInit ⟨#[0xb1]⟩ 1 none ∈ BG) (hR : 1 ≤ R.frames ∧ (st.map fun v => v.category).sum + 12 ≤ R.locals) (d : decode cc pc = .ok (.invokespecial idx, 3)) (hq : pc + 3 = q) (kk : J p l e R s m args below meth c Q D base nL k n q lv st w) : J p l e R s m args below meth c Q D base nL k n pc lv (.ref a :: st) w := by
  subst hq
  intro ls H locs hl hP hS
  obtain ⟨hx, hb, hml, hown, hts, hG, -⟩ := X
  exact W.objInit hx hb hown (hts _ hw) (hts _ hw2) (hts _ hw3) (g := F0 m pc ls _) rfl (by rw [hml]; exact hl.1) rfl d hR.1 (by show 2 * 0 + _ + 12 ≤ _; rw [Nat.mul_zero, Nat.zero_add]; exact hR.2) (kk ls H locs hl hP hS)
section JEND
variable {post : Option Value → Wd → Prop} {px : String → Wd → Prop} {mc ms : Nat}
theorem j_iret (X : Cx p l s m args meth c y cc nL ret D ca base) {v : Int32} (hrt : ret = some .int) (d : decode cc pc = .ok (.ireturn, 1)) (hp : post (some (.int v)) w) (hk : k ≤ mc) (hn : n ≤ ms) : J p l e R s m args below meth c (vx_MQ below (Qn D base post) (Xn D base px) args s mc ms (fun q => base ≤ q)) D base nL k n pc lv [.int v] w := by
  intro ls H locs hl hP hS
  obtain ⟨hx, hb, -, -, -, hG, hlocks, -, hr, -⟩ := X
  refine vx_ret (W.widen hk hn ?_)
  exact W.iret (v := v) hx hb (hr.trans hrt) (fun t ht hW => ⟨(some (.int v)), w, rfl, hp, by rw [ht]; exact hP, hS.F ht⟩) hS.2.2 d hlocks
theorem j_zret (X : Cx p l s m args meth c y cc nL ret D ca base) {v : Int32} (hrt : ret = some .boolean) (hv : v = 0 ∨ v = 1) (d : decode cc pc = .ok (.ireturn, 1)) (hp : post (some (.int v)) w) (hk : k ≤ mc) (hn : n ≤ ms) : J p l e R s m args below meth c (vx_MQ below (Qn D base post) (Xn D base px) args s mc ms (fun q => base ≤ q)) D base nL k n pc lv [.int v] w := by
  intro ls H locs hl hP hS
  obtain ⟨hx, hb, -, -, -, hG, hlocks, -, hr, -⟩ := X
  refine vx_ret (W.widen hk hn ?_)
  exact W.zret (v := v) (ty := .boolean) hx hb (hr.trans hrt) (by rcases hv with rfl | rfl <;> rfl) (fun t ht hW => ⟨(some (.int v)), w, rfl, hp, by rw [ht]; exact hP, hS.F ht⟩) hS.2.2 d hlocks
theorem j_vret (X : Cx p l s m args meth c y cc nL ret D ca base) (hrt : ret = none) (d : decode cc pc = .ok (.return_, 1)) (hp : post none w) (hk : k ≤ mc) (hn : n ≤ ms) : J p l e R s m args below meth c (vx_MQ below (Qn D base post) (Xn D base px) args s mc ms (fun q => base ≤ q)) D base nL k n pc lv [] w := by
  intro ls H locs hl hP hS
  obtain ⟨hx, hb, -, -, -, hG, hlocks, -, hr, -⟩ := X
  refine vx_ret (W.widen hk hn ?_)
  exact W.vret hx hb (hr.trans hrt) (fun t ht hW => ⟨none, w, rfl, hp, by rw [ht]; exact hP, hS.F ht⟩) hS.2.2 d hlocks
theorem j_lret (X : Cx p l s m args meth c y cc nL ret D ca base) {v : Int64} (hrt : ret = some .long) (d : decode cc pc = .ok (.lreturn, 1)) (hp : post (some (.long v)) w) (hk : k ≤ mc) (hn : n ≤ ms) : J p l e R s m args below meth c (vx_MQ below (Qn D base post) (Xn D base px) args s mc ms (fun q => base ≤ q)) D base nL k n pc lv [.long v] w := by
  intro ls H locs hl hP hS
  obtain ⟨hx, hb, -, -, -, hG, hlocks, -, hr, -⟩ := X
  refine vx_ret (W.widen hk hn ?_)
  exact W.lret (v := v) hx hb (hr.trans hrt) (fun t ht hW => ⟨(some (.long v)), w, rfl, hp, by rw [ht]; exact hP, hS.F ht⟩) hS.2.2 d hlocks
theorem j_dret (X : Cx p l s m args meth c y cc nL ret D ca base) {v : UInt64} (hrt : ret = some .double) (d : decode cc pc = .ok (.dreturn, 1)) (hp : post (some (.double v)) w) (hk : k ≤ mc) (hn : n ≤ ms) : J p l e R s m args below meth c (vx_MQ below (Qn D base post) (Xn D base px) args s mc ms (fun q => base ≤ q)) D base nL k n pc lv [.double v] w := by
  intro ls H locs hl hP hS
  obtain ⟨hx, hb, -, -, -, hG, hlocks, -, hr, -⟩ := X
  refine vx_ret (W.widen hk hn ?_)
  exact W.dret (v := v) hx hb (hr.trans hrt) (fun t ht hW => ⟨(some (.double v)), w, rfl, hp, by rw [ht]; exact hP, hS.F ht⟩) hS.2.2 d hlocks
theorem j_aret (X : Cx p l s m args meth c y cc nL ret D ca base) {r : Option Nat} {C : String} (hrt : ret = some (.object C)) (d : decode cc pc = .ok (.areturn, 1)) (hp : post (some (va_rf r)) w) (hk : k ≤ mc) (hn : n ≤ ms) : J p l e R s m args below meth c (vx_MQ below (Qn D base post) (Xn D base px) args s mc ms (fun q => base ≤ q)) D base nL k n pc lv [va_rf r] w := by
  intro ls H locs hl hP hS
  obtain ⟨hx, hb, -, -, -, hG, hlocks, -, hr, -⟩ := X
  refine vx_ret (W.widen hk hn ?_)
  exact W.aret (v := va_rf r) (rt := .object C) hx hb (hr.trans hrt) (Or.inl ⟨C, rfl⟩) (va_rf_or r) (fun t ht hW => ⟨(some (va_rf r)), w, rfl, hp, by rw [ht]; exact hP, hS.F ht⟩) hS.2.2 d hlocks
/-- 'throw new E("text")' -/
theorem j_throw (X : Cx p l s m args meth c y cc nL ret D ca base) (htab : ∀ x ∈ c.exceptionTable.toList, False) {ik is ic : Nat} {cls text : String} {names : List String} (T : TS y.cls ik is ic cls text names) (d0 : decode cc pc = .ok (.new ik, 3)) (d3 : decode cc (pc + 3) = .ok (.dup, 1)) (d4 : decode cc (pc + 4) = .ok (.ldc is, 2)) (d6 : decode cc (pc + 6) = .ok (.invokespecial ic, 3)) (d9 : decode cc (pc + 9) = .ok (.athrow, 1)) (hRf : names.length + 3 < R.frames) (hRl : (st.map fun v => v.category).sum + (13 * (names.length + 1) + 43) ≤ R.locals) (hRc : k + 1 ≤ R.cells) (hRs : n + 6 ≤ R.slots) (hp : px cls w) (hk : k + 1 ≤ mc) (hn : n + 6 ≤ ms) : J p l e R s m args below meth c (vx_MQ below (Qn D base post) (Xn D base px) args s mc ms (fun q => base ≤ q)) D base nL k n pc lv st w := by
  intro ls H locs hl hP hS
  obtain ⟨t1, t2, t3, t4, t5, t6, t7, t8, t9⟩ := T
  obtain ⟨hx, hb, hml, hown, hts, hG, hlocks, hst, hr, -⟩ := X
  obtain ⟨g1, g2, g3, g4, g5, g6, -, -, g9⟩ := hG
  obtain ⟨sa, hsa⟩ := g5 _ t5
  have hat : ∀ w ∈ vx_atS y.cls ic cls names, w.before args s = true := by
    intro z hz
    by_cases hg : goodWord z = true
    · exact hts z (t7 z (List.mem_filter.mpr ⟨hz, hg⟩))
    · rcases List.mem_cons.mp (t8 z (List.mem_filter.mpr ⟨hz, by simp [hg]⟩)) with h | h
      · rw [h]
        exact va_Nw.use rfl (g6 _ t6)
      · obtain ⟨u, hu, rfl⟩ := List.mem_map.mp h
        exact va_Nw.use rfl (g9 u hu)
  refine vx_throwS hx hb hst hown t1 t2 (hts _ t3) (hts _ t4) hsa hat t9 g3 g4 hS (by rw [hml]; exact hl.1) d0 d3 d4 d6 d9 (fun x hx => (htab x hx).elim) hRf hRl hRc hRs hlocks (fun t hA hz hq => ?_) hS.2.2 hk hn
  exact ⟨w, hp, hP.kept hq, Nat.le_trans hS.1 hz, fun x h1 h2 => (hq x (Nat.lt_of_lt_of_le h1 hS.1)).trans (hS.2.1 x h1 h2)⟩
/-- an exception of a callee goes on to the caller -/
theorem jx_out (X : Cx p l s m args meth c y cc nL ret D ca base) (htab : ∀ x ∈ c.exceptionTable.toList, False) {E : String} (hp : px E w) (hk : k ≤ mc) (hn : n ≤ ms) : JX p l e R s m args below meth c (vx_MQ below (Qn D base post) (Xn D base px) args s mc ms (fun q => base ≤ q)) D base nL k n pc lv st w E := by
  intro ls H locs q ce hl hP hS hc1 hc2 hc3
  exact vx_out (fun x hx => (htab x hx).elim) X.2.2.2.2.2.2.1 hc1 hc2 hc3 (fun t ht hA => ⟨w, hp, by rw [ht]; exact hP, hS.F ht⟩) hS.2.2 hk hn
end JEND
theorem jj_go {a : Array Value} {mc ms : Nat} {post : Option Value → Wd → Prop} {px : String → Wd → Prop} {H : Heap} {locs : List Loc} {ls : Array Slot} {st0 : List Value} (hl : lv_has ls nL lv) (hr : vx_Run p l e R s m args below meth c H locs k n mc ms (F0 m pc ls st0) st (Qn D base post a) (Xn D base px) (fun q => base ≤ q)) (hS : va_S (fun q => base ≤ q) s.heap H locs)
    (kx : ∀ (E : String) (w' : Wd), px E w' → JX p l e R s m args below meth c Q D base nL (k + mc) (n + ms) pc lv st w' E)
    (kk : ∀ (v : Option Value) (w' : Wd), post v w' → J p l e R s m args below meth c Q D base nL (k + mc) (n + ms) (pc + 3) lv (v.toList ++ st) w') : W p l e R s m args below meth c H locs k n Q (F0 m pc ls st0) := by
  intro T hT X
  rcases hr T hT X with ⟨v, st₀, t, T', L, h0, X', hL, e1, e2, ⟨v', w', hv, hp, hb, hF⟩, stp⟩ | ⟨q, st₀, t, T', L, E, ce, h0, X', hL, e1, e2, ⟨w', hp, hb, hF⟩, hce, hcv, hcl, stp⟩
  · cases hv
    obtain ⟨k1, k2, k3⟩ := vx_keep h0 e1 hS (fun _ _ h => h) (fun _ h => h) hL hF
    obtain ⟨t2, a1, b1⟩ := kk v w' hp ls T'.heap (locs ++ L) hl (by rw [e1]; exact hb) k3 T' rfl X'
    exact ⟨t2, stp t2 a1, b1⟩
  · obtain ⟨k1, k2, k3⟩ := vx_keep h0 e1 hS (fun _ _ h => h) (fun _ h => h) hL hF
    obtain ⟨t2, a1, b1⟩ := kx E w' hp ls T'.heap (locs ++ L) q ce hl (by rw [e1]; exact hb) k3 (by rw [e1]; exact hce) hcv hcl T' rfl X'
    exact ⟨t2, stp.trans a1, b1⟩
/-- the start of a callee, from the caller's place -/
theorem jj_pre {H : Heap} {locs : List Loc} (hG : GI D ca base s s.heap) (hP : HP D w H) (hS : va_S (fun q => base ≤ q) s.heap H locs) (av : List Value) : FrameBlind (va_Pc av (fun U => GI D ca base U U.heap ∧ HP D w U.heap)) ∧ ∀ U : State, U.heap = H → s.WarmedH U.vm → va_Pc av (fun U => GI D ca base U U.heap ∧ HP D w U.heap) av.toArray U := by
  refine ⟨fun a U g mk h => ⟨h.1, GI.same (s := U) rfl h.2.1, h.2.2⟩, fun U hU hW => ⟨rfl, ?_, by rw [hU]; exact hP⟩⟩
  rw [hU]
  exact (hG.kept hS.1 (fun q h1 h2 => hS.2.1 q h1 h2)).warm hW
theorem jj_cb {own : String} {idx mc ms na d : Nat} {z : MethodName} {b : ByteArray} {maxL : Nat} {rt : Option FieldType} (hts : ∀ w ∈ BG, w.before args s = true) (h1 : Cond.methodLink own idx z ∈ BG) (h2 : Cond.initialized z.cls ∈ BG) (h3 : Cond.code z b maxL rt ∈ BG) (h4 : z.cls ≠ "java/lang/invoke/MethodHandle" ∧ z.cls ≠ "java/lang/invoke/VarHandle") (h5 : (parseMethodDescriptor z.desc).map (fun d => d.parameters.length) = some na) (hR : (8 * d + 8) + 1 ≤ R.frames ∧ 8 + (maxL + 11) + (120 * d + 200) ≤ R.locals) : CallB R s args own idx z b maxL rt (.code z b maxL rt :: BG) (Rm d mc ms) mc ms na := by
  have hG : ∀ w ∈ (Cond.code z b maxL rt :: BG), w ∈ BG ∧ ((w.onTables && w.keeps) = true ∨ ∃ ty, w = .arrayClass ty) := by
    intro w hw
    have hw2 : w ∈ BG := by
      rcases List.mem_cons.mp hw with rfl | h
      · exact h3
      · exact h
    exact BG_ok (fun _ h => h) w hw2
  refine ⟨rfl, rfl, hR.1, hR.2, pay_in hts hG, List.mem_cons_self, hts _ h3, hts _ h2, h4, fun sig h => ?_, hts _ h1⟩
  rw [h] at h5
  exact (Option.some.inj h5).symm
theorem j_callV (X : Cx p l s m args meth c y cc nL ret D ca base) {C : String} {idx : Nat} {z : MethodName} {b : ByteArray} {maxL : Nat} {rt : Option FieldType} {dd mc ms : Nat} {As : List Value} {post : Option Value → Wd → Prop} {px : String → Wd → Prop} {st0 : List Value} {a ci : Nat} {fs : List Value} (he : w a = some (.inr (ci, fs))) (hc : (vwCl[ci]?).map (fun q => q.1) = some C) (hM : CT l D ca base z b maxL rt dd mc ms (.ref a :: As) w post px) (hf : SV y.cls C idx z b maxL rt As.length) (hR : (8 * dd + 8) + 1 ≤ R.frames ∧ 8 + (maxL + 11) + (120 * dd + 200) ≤ R.locals) (hst : st0 = As.reverse ++ .ref a :: st) (hcat : (st.map fun v => v.category).sum ≤ 8) (d : decode cc pc = .ok (.invokevirtual idx, 3)) (hf9 : k + mc ≤ R.cells ∧ n + ms ≤ R.slots)
    (kx : ∀ (E : String) (w' : Wd), px E w' → JX p l e R s m args below meth c Q D base nL (k + mc) (n + ms) pc lv st w' E)
    (kk : ∀ (v : Option Value) (w' : Wd), post v w' → J p l e R s m args below meth c Q D base nL (k + mc) (n + ms) (pc + 3) lv (v.toList ++ st) w') : J p l e R s m args below meth c Q D base nL k n pc lv st0 w := by
  intro ls H locs hl hP hS
  obtain ⟨f1, f2, f3, f4, f5, f6, f7⟩ := hf
  obtain ⟨hx, hb, hml, hown, hts, hG, -⟩ := X
  have hpre := jj_pre (w := w) hG hP hS (.ref a :: As)
  have hrc : ∃ cell : Cell, H[a]? = some cell ∧ cell.vm.isStatics = false ∧ s.vm.findClass C = some cell.cls := by
    cases hcl : vwCl[ci]? with
    | none => rw [hcl] at hc; cases hc
    | some r =>
      rw [hcl] at hc
      cases hc
      exact va_recv (q0 := 0) (fs := fs) hG.1 (hP.one he) hcl rfl
  exact jj_go hl (vx_runV (As := As) (rest := st) ⟨hx, hb, hml, hown, hts⟩ hM ⟨jj_cb hts f1 f4 f5 f6 f7 hR, hts _ f2, hts _ f3⟩ ⟨hpre.1, hrc, hpre.2⟩ rfl rfl hl.1 hst (lv_room hcat) d hf9) hS kx kk
theorem j_callS (X : Cx p l s m args meth c y cc nL ret D ca base) {idx : Nat} {z : MethodName} {b : ByteArray} {maxL : Nat} {rt : Option FieldType} {dd mc ms : Nat} {As : List Value} {post : Option Value → Wd → Prop} {px : String → Wd → Prop} {st0 : List Value} (hM : CT l D ca base z b maxL rt dd mc ms As w post px) (hf : SS y.cls idx z b maxL rt As.length) (hR : (8 * dd + 8) + 1 ≤ R.frames ∧ 8 + (maxL + 11) + (120 * dd + 200) ≤ R.locals) (hst : st0 = As.reverse ++ st) (hcat : (st.map fun v => v.category).sum ≤ 8) (d : decode cc pc = .ok (.invokestatic idx, 3)) (hf9 : k + mc ≤ R.cells ∧ n + ms ≤ R.slots)
    (kx : ∀ (E : String) (w' : Wd), px E w' → JX p l e R s m args below meth c Q D base nL (k + mc) (n + ms) pc lv st w' E)
    (kk : ∀ (v : Option Value) (w' : Wd), post v w' → J p l e R s m args below meth c Q D base nL (k + mc) (n + ms) (pc + 3) lv (v.toList ++ st) w') : J p l e R s m args below meth c Q D base nL k n pc lv st0 w := by
  intro ls H locs hl hP hS
  obtain ⟨f1, f2, f4, f5, f6, f7⟩ := hf
  obtain ⟨hx, hb, hml, hown, hts, hG, -⟩ := X
  have hpre := jj_pre (w := w) hG hP hS As
  exact jj_go hl (vx_runS (As := As) (rest := st) ⟨hx, hb, hml, hown, hts⟩ hM ⟨jj_cb hts f1 f4 f5 f6 f7 hR, hts _ f2⟩ hpre rfl rfl hl.1 hst (lv_room hcat) d hf9) hS kx kk
theorem j_callI (X : Cx p l s m args meth c y cc nL ret D ca base) {idx : Nat} {z : MethodName} {b : ByteArray} {maxL : Nat} {dd mc ms : Nat} {As : List Value} {post : Option Value → Wd → Prop} {px : String → Wd → Prop} {st0 : List Value} {a : Nat} (hM : CT l D ca base z b maxL none dd mc ms (.ref a :: As) w post px) (hf : SI y.cls idx z b maxL As.length) (hR : (8 * dd + 8) + 1 ≤ R.frames ∧ 8 + (maxL + 11) + (120 * dd + 200) ≤ R.locals) (hst : st0 = As.reverse ++ .ref a :: st) (hcat : (st.map fun v => v.category).sum ≤ 8) (d : decode cc pc = .ok (.invokespecial idx, 3)) (hf9 : k + mc ≤ R.cells ∧ n + ms ≤ R.slots)
    (kx : ∀ (E : String) (w' : Wd), px E w' → JX p l e R s m args below meth c Q D base nL (k + mc) (n + ms) pc lv st w' E)
    (kk : ∀ (v : Option Value) (w' : Wd), post v w' → J p l e R s m args below meth c Q D base nL (k + mc) (n + ms) (pc + 3) lv (v.toList ++ st) w') : J p l e R s m args below meth c Q D base nL k n pc lv st0 w := by
  intro ls H locs hl hP hS
  obtain ⟨f1, f2, f4, f5, f8, f6, f7⟩ := hf
  obtain ⟨hx, hb, hml, hown, hts, hG, -⟩ := X
  have hpre := jj_pre (w := w) hG hP hS (.ref a :: As)
  exact jj_go hl (vx_runI (As := As) (rest := st) ⟨hx, hb, hml, hown, hts⟩ hM ⟨jj_cb hts f1 f4 f5 f6 f7 hR, f8, hts _ f2⟩ hpre rfl rfl hl.1 hst (lv_room hcat) d hf9) hS kx kk
end JROWS2
theorem jj_ofW {l : Launch} {y : MethodName} {ws ws' : List Cond} {rm : Room} {Pc : Array Value → State → Prop} {Qc : Array Value → State → Outcome → State → Prop} {XC : String → State → State → Prop} {mc ms : Nat} {free : Addr → Prop} {cc : ByteArray} {maxL : Nat} {ret : Option FieldType}
    (hy : plainFor y = true) (hw : ws = Cond.code y cc maxL ret :: ws')
    (body : ∀ p e s m args below meth c s₁, BodyLoose p l y (headSpec ws rm) cc maxL ret e s m args below meth c s₁ → c.maxLocals = maxL → (∀ x ∈ c.exceptionTable.toList, False) → Pc args s →
      W p l e (headSpec ws rm).room s m args below meth c s.heap [] 0 0 (vx_MQ below Qc XC args s mc ms free) (entryFrame m args maxL)) : vx_Met l y ws rm Pc Qc XC mc ms free := by
  refine MetFree.of_bodySF (code := cc) (maxLocals := maxL) (ret := ret) hy ?_ ?_
  · intro args s m h hn
    obtain ⟨meth, c, h1, h2, h3, h4, h5, h6, -, -⟩ := Cond.code_spec hn (atoms_spec (ws := ws) h _ (by rw [hw]; exact List.mem_cons_self))
    exact ⟨meth, c, h1, h2, h3, h4, h5, h6⟩
  · intro p e s m args below meth c s₁ B hml hP _
    have hh0 : s₁.heap = s.heap := by rw [B.state]; rfl
    have ht : ∀ x ∈ c.exceptionTable.toList, False := by
      obtain ⟨meth9, c9, h1, h2, -, -, -, -, h7, -⟩ := Cond.code_spec B.named (atoms_spec (ws := ws) B.pre _ (by rw [hw]; exact List.mem_cons_self))
      cases Option.some.inj (h1.symm.trans B.method)
      cases Option.some.inj (h2.symm.trans (Stand.of_body B).code)
      intro x hx
      rw [Array.isEmpty_iff.mp h7] at hx
      cases hx
    obtain ⟨t, a1, o, b1, b2, b3⟩ := body p e s m args below meth c s₁ B hml ht hP s₁ hh0 (Stand.of_body B)
    exact ⟨t, o, a1, b1, b2, b3⟩
/-- a contract out of the walk of the body -/
theorem CT.mk {l : Launch} (hlt : l.stackTraces = false) {D : va_G} {ca : Nat → ClassId} {base : Nat} {y : MethodName} {b : ByteArray} {maxL : Nat} {ret : Option FieldType} {d mc ms : Nat} {av : List Value} {w : Wd} {post : Option Value → Wd → Prop} {px : String → Wd → Prop} (hy : plainFor y = true) (hlen : (lg_sl av).length ≤ maxL)
    (body : ∀ (p : Program) (e : Env) (s : State) (m : MethodId) (args : Array Value) (below : List Frame) (meth : Method) (c : Code), Cx p l s m args meth c y b maxL ret D ca base → (∀ x ∈ c.exceptionTable.toList, False) → J p l e (Rm d mc ms) s m args below meth c (vx_MQ below (Qn D base post) (Xn D base px) args s mc ms (fun q => base ≤ q)) D base maxL 0 0 0 (lv_args 0 av) [] w) : CT l D ca base y b maxL ret d mc ms av w post px := by
  refine jj_ofW (cc := b) (maxL := maxL) (ret := ret) hy rfl ?_
  intro p e s m args below meth c s₁ B hml htab hv
  obtain ⟨rfl, hG, hP⟩ := hv
  have hts := atoms_spec (ws := Cond.code y b maxL ret :: BG) B.pre
  have X : Cx p l s m av.toArray meth c y b maxL ret D ca base := ⟨B.exec, B.bytes, hml, findClass_of_methodNamed B.named, fun w hw => hts w (List.mem_cons_of_mem _ hw), hG, B.notSynchronized, hlt, B.returns, (name_of_methodNamed B.named B.method).1⟩
  have h := body p e s m av.toArray below meth c X htab _ s.heap [] (lv_entry av hlen) hP va_S.rf
  rw [lg_entry_eq]
  exact h
