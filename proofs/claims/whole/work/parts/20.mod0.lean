/-! ===== the model: T is its state, by the places of its fields; th the place of what was thrown ===== -/
def mln (f : Nat) : Nat := if f = 16 ∨ f = 17 then 96 else if 19 ≤ f then 200 else 12
theorem mln_b {f : Nat} : mln f < 2147483648 := by
  unfold mln
  split
  · decide
  · split <;> decide
def mty (f : Nat) : Nat := if f = 13 ∨ f = 21 then 1 else 0
abbrev isA (f : Nat) : Prop := (4 ≤ f ∧ f ≤ 21) ∧ f ≠ 18
abbrev cMod (am : Nat → Nat) (th : Int) (T : St) : va_E := .inr (4, [.int (iI th), .int (iI (T 1 0)), .int (iI (T 2 0)), .int (iI (T 3 0)), .ref (am 4), .ref (am 5), .ref (am 6), .ref (am 7), .ref (am 8), .ref (am 9), .ref (am 10), .ref (am 11), .ref (am 12), .ref (am 13), .ref (am 14), .ref (am 15), .ref (am 16), .ref (am 17), .int (iI (T 18 0)), .ref (am 19), .ref (am 20), .ref (am 21)])
abbrev eArr (ca : Nat → ClassId) (T : St) (f : Nat) : va_E := .inl (ca (mty f), mln f, .inl (fun (j : Nat) => iI (T f (j : Int))))
def MW (base : Nat) (ca : Nat → ClassId) (am : Nat → Nat) (th : Int) (T : St) (w : Wd) : Prop :=
  (w (am 0) = some (cMod am th T) ∧ base ≤ am 0) ∧ (∀ f, isA f → base ≤ am f ∧ w (am f) = some (eArr ca T f)) ∧ ∀ f g, isA f → isA g → am f = am g → f = g
section MWS
variable {base : Nat} {ca : Nat → ClassId} {am : Nat → Nat} {th : Int} {T : St} {w : Wd}
theorem MW.obj (h : MW base ca am th T w) : w (am 0) = some (cMod am th T) := h.1.1
theorem MW.b0 (h : MW base ca am th T w) : base ≤ am 0 := h.1.2
theorem MW.arr (h : MW base ca am th T w) {f : Nat} (hf : isA f) : w (am f) = some (eArr ca T f) := (h.2.1 f hf).2
theorem MW.bf (h : MW base ca am th T w) {f : Nat} (hf : isA f) : base ≤ am f := (h.2.1 f hf).1
theorem MW.fr {c : Nat} {w' : Wd} (h : MW base ca am th T w) (hc : c ≠ 1) (hF : Fr c w w') : MW base ca am th T w' :=
  ⟨⟨hF _ _ h.obj hc.symm, h.b0⟩, fun f hf => ⟨h.bf hf, hF _ _ (h.arr hf) hc.symm⟩, h.2.2⟩
theorem MW.put_ (h : MW base ca am th T w) (th' : Int) (T' : St) (hk : ∀ f, isA f → T' f = T f) : MW base ca am th' T' (wu w (am 0) (cMod am th' T')) := by
  refine ⟨⟨wu_s, h.b0⟩, fun f hf => ⟨h.bf hf, ?_⟩, h.2.2⟩
  rw [wu_n (ne_of_cell (h.arr hf) h.obj (fun z => by cases z)), h.arr hf]
  unfold eArr
  rw [hk f hf]
theorem MW.put0 (h : MW base ca am th T w) (v : Int) : MW base ca am v T (wu w (am 0) (cMod am v T)) := h.put_ v T fun _ _ => rfl
theorem MW.putA (h : MW base ca am th T w) {f : Nat} (hf : isA f) {i : Int} (h0 : 0 ≤ i) (v : Int) : MW base ca am th (up T f i v) (wu w (am f) (.inl (ca (mty f), mln f, .inl (va_up (fun (j : Nat) => iI (T f (j : Int))) i.toNat (iI v))))) := by
  refine ⟨⟨?_, h.b0⟩, fun g hg => ⟨h.bf hg, ?_⟩, h.2.2⟩
  · rw [wu_n (ne_of_cell h.obj (h.arr hf) (fun z => by cases z)), h.obj]
    have e : ∀ g, g = 1 ∨ g = 2 ∨ g = 3 ∨ g = 18 → up T f i v g = T g := fun g hg => by
      funext j
      exact up_f (fun z => by omega)
    unfold cMod
    rw [e 1 (by decide), e 2 (by decide), e 3 (by decide), e 18 (by decide)]
  · by_cases hgf : g = f
    · subst hgf
      rw [wu_s]
      have e : (va_up (fun (j : Nat) => iI (T g (j : Int))) i.toNat (iI v)) = fun (j : Nat) => iI (up T g i v g (j : Int)) := by
        funext j
        unfold va_up up
        rw [if_pos rfl]
        by_cases hj : j = i.toNat
        · rw [if_pos hj, if_pos (by omega)]
        · rw [if_neg hj, if_neg (by omega)]
      rw [e]
    · rw [wu_n (fun z => hgf (h.2.2 _ _ hg hf z)), h.arr hg]
      have e : up T f i v g = T g := by funext j; exact up_f hgf
      unfold eArr
      rw [e]
end MWS
section MROWS
variable {p : Program} {l : Launch} {e : Env} {R : Room} {s : State} {m : MethodId} {args : Array Value} {below : List Frame} {meth : Method} {c : Code} {Q : State → Prop} {D : va_G} {ca : Nat → ClassId} {base nL k n pc q : Nat} {lv lv' : List (Nat × Value)} {st : List Value} {w : Wd} {y : MethodName} {cc : ByteArray} {ret : Option FieldType} {am : Nat → Nat} {th : Int} {T : St}
theorem jm_iald (X : Cx p l s m args meth c y cc nL ret D ca base) (hM : MW base ca am th T w) (f : Nat) (hf : isA f) (ht : mty f = 0) {i : Int} (h0 : 0 ≤ i) (h1 : i < (mln f : Int)) (d : decode cc pc = .ok (.iaload, 1)) (hq : pc + 1 = q) (kk : J p l e R s m args below meth c Q D base nL k n q lv (.int (iI (T f i)) :: st) w) : J p l e R s m args below meth c Q D base nL k n pc lv (.int (iI i) :: .ref (am f) :: st) w := by
  have he := hM.arr hf
  unfold eArr at he
  rw [ht] at he
  refine j_iald X he ⟨h0, h1⟩ mln_b d hq ?_
  show J p l e R s m args below meth c Q D base nL k n q lv (.int (iI (T f ((i.toNat : Nat) : Int))) :: st) w
  rw [Int.toNat_of_nonneg h0]
  exact kk
theorem jm_zald (X : Cx p l s m args meth c y cc nL ret D ca base) (hM : MW base ca am th T w) (f : Nat) (hf : isA f) (ht : mty f = 1) {i : Int} (h0 : 0 ≤ i) (h1 : i < (mln f : Int)) (d : decode cc pc = .ok (.baload, 1)) (hq : pc + 1 = q) (kk : J p l e R s m args below meth c Q D base nL k n q lv (.int (iI (T f i)) :: st) w) : J p l e R s m args below meth c Q D base nL k n pc lv (.int (iI i) :: .ref (am f) :: st) w := by
  have he := hM.arr hf
  unfold eArr at he
  rw [ht] at he
  refine j_zald X he ⟨h0, h1⟩ mln_b d hq ?_
  show J p l e R s m args below meth c Q D base nL k n q lv (.int (iI (T f ((i.toNat : Nat) : Int))) :: st) w
  rw [Int.toNat_of_nonneg h0]
  exact kk
theorem jm_iast (X : Cx p l s m args meth c y cc nL ret D ca base) (hM : MW base ca am th T w) (f : Nat) (hf : isA f) (ht : mty f = 0) {i v : Int} (h0 : 0 ≤ i) (h1 : i < (mln f : Int)) (d : decode cc pc = .ok (.iastore, 1)) (hq : pc + 1 = q) (kk : ∀ w', MW base ca am th (up T f i v) w' → Fr 1 w w' → J p l e R s m args below meth c Q D base nL k n q lv st w') : J p l e R s m args below meth c Q D base nL k n pc lv (.int (iI v) :: .int (iI i) :: .ref (am f) :: st) w := by
  have he := hM.arr hf
  have hp := hM.putA hf h0 v
  unfold eArr at he
  rw [ht] at he hp
  exact j_iast X he ⟨h0, h1⟩ mln_b (hM.bf hf) d hq (kk _ hp (Fr.set he rfl))
theorem jm_zast (X : Cx p l s m args meth c y cc nL ret D ca base) (hM : MW base ca am th T w) (f : Nat) (hf : isA f) (ht : mty f = 1) {i v : Int} (h0 : 0 ≤ i) (h1 : i < (mln f : Int)) (hz : iI v = 0 ∨ iI v = 1) (d : decode cc pc = .ok (.bastore, 1)) (hq : pc + 1 = q) (kk : ∀ w', MW base ca am th (up T f i v) w' → Fr 1 w w' → J p l e R s m args below meth c Q D base nL k n q lv st w') : J p l e R s m args below meth c Q D base nL k n pc lv (.int (iI v) :: .int (iI i) :: .ref (am f) :: st) w := by
  have he := hM.arr hf
  have hp := hM.putA hf h0 v
  unfold eArr at he
  rw [ht] at he hp
  exact j_zast X he ⟨h0, h1⟩ mln_b hz (hM.bf hf) d hq (kk _ hp (Fr.set he rfl))
theorem jm_put0 (X : Cx p l s m args meth c y cc nL ret D ca base) {idx : Nat} {v : Int} (hf : FP y.cls idx 4 0 .int false) (hM : MW base ca am th T w) (d : decode cc pc = .ok (.putfield idx, 3)) (hq : pc + 3 = q) (kk : ∀ w', MW base ca am v T w' → Fr 1 w w' → J p l e R s m args below meth c Q D base nL k n q lv st w') : J p l e R s m args below meth c Q D base nL k n pc lv (.int (iI v) :: .ref (am 0) :: st) w :=
  j_put X hf hM.obj (Nat.le_of_ble_eq_true rfl) rfl rfl hM.b0 d hq (kk _ (hM.put0 v) (Fr.set hM.obj rfl))
theorem jm_put1 (X : Cx p l s m args meth c y cc nL ret D ca base) {idx : Nat} {v : Int} (hf : FP y.cls idx 4 1 .int false) (hM : MW base ca am th T w) (d : decode cc pc = .ok (.putfield idx, 3)) (hq : pc + 3 = q) (kk : ∀ w', MW base ca am th (up T 1 0 v) w' → Fr 1 w w' → J p l e R s m args below meth c Q D base nL k n q lv st w') : J p l e R s m args below meth c Q D base nL k n pc lv (.int (iI v) :: .ref (am 0) :: st) w :=
  j_put X hf hM.obj (Nat.le_of_ble_eq_true rfl) rfl rfl hM.b0 d hq (kk _ (hM.put_ th (up T 1 0 v) (fun g hg => by funext j; exact up_f (fun z => by omega))) (Fr.set hM.obj rfl))
theorem jm_put2 (X : Cx p l s m args meth c y cc nL ret D ca base) {idx : Nat} {v : Int} (hf : FP y.cls idx 4 2 .int false) (hM : MW base ca am th T w) (d : decode cc pc = .ok (.putfield idx, 3)) (hq : pc + 3 = q) (kk : ∀ w', MW base ca am th (up T 2 0 v) w' → Fr 1 w w' → J p l e R s m args below meth c Q D base nL k n q lv st w') : J p l e R s m args below meth c Q D base nL k n pc lv (.int (iI v) :: .ref (am 0) :: st) w :=
  j_put X hf hM.obj (Nat.le_of_ble_eq_true rfl) rfl rfl hM.b0 d hq (kk _ (hM.put_ th (up T 2 0 v) (fun g hg => by funext j; exact up_f (fun z => by omega))) (Fr.set hM.obj rfl))
theorem jm_put3 (X : Cx p l s m args meth c y cc nL ret D ca base) {idx : Nat} {v : Int} (hf : FP y.cls idx 4 3 .int false) (hM : MW base ca am th T w) (d : decode cc pc = .ok (.putfield idx, 3)) (hq : pc + 3 = q) (kk : ∀ w', MW base ca am th (up T 3 0 v) w' → Fr 1 w w' → J p l e R s m args below meth c Q D base nL k n q lv st w') : J p l e R s m args below meth c Q D base nL k n pc lv (.int (iI v) :: .ref (am 0) :: st) w :=
  j_put X hf hM.obj (Nat.le_of_ble_eq_true rfl) rfl rfl hM.b0 d hq (kk _ (hM.put_ th (up T 3 0 v) (fun g hg => by funext j; exact up_f (fun z => by omega))) (Fr.set hM.obj rfl))
theorem jm_put18 (X : Cx p l s m args meth c y cc nL ret D ca base) {idx : Nat} {v : Int} (hf : FP y.cls idx 4 18 .int false) (hM : MW base ca am th T w) (d : decode cc pc = .ok (.putfield idx, 3)) (hq : pc + 3 = q) (kk : ∀ w', MW base ca am th (up T 18 0 v) w' → Fr 1 w w' → J p l e R s m args below meth c Q D base nL k n q lv st w') : J p l e R s m args below meth c Q D base nL k n pc lv (.int (iI v) :: .ref (am 0) :: st) w :=
  j_put X hf hM.obj (Nat.le_of_ble_eq_true rfl) rfl rfl hM.b0 d hq (kk _ (hM.put_ th (up T 18 0 v) (fun g hg => by funext j; exact up_f (fun z => by omega))) (Fr.set hM.obj rfl))
end MROWS
/-- what the model's numbers keep to -/
def RT (n : Int) (T : St) (i : Int) : Prop := (-1 ≤ T 4 i ∧ T 4 i < n) ∧ (1 ≤ T 5 i ∧ T 5 i ≤ 9999) ∧ (0 ≤ T 6 i ∧ T 6 i ≤ 999) ∧ (1 ≤ T 7 i ∧ T 7 i ≤ 999) ∧ (0 ≤ T 8 i ∧ T 8 i ≤ 512) ∧ (-1 ≤ T 9 i ∧ T 9 i < n) ∧ (0 ≤ T 10 i ∧ T 10 i ≤ 511488) ∧ (0 ≤ T 11 i ∧ T 11 i ≤ 512487) ∧ (-99999 ≤ T 12 i ∧ T 12 i ≤ 99999) ∧ (0 ≤ T 13 i ∧ T 13 i ≤ 1) ∧ (0 ≤ T 14 i ∧ T 14 i ≤ 512) ∧ (0 ≤ T 15 i ∧ T 15 i ≤ 8)
def RP (T : St) (k : Int) : Prop := (1 ≤ T 16 k ∧ T 16 k ≤ 511488) ∧ (-199998 ≤ T 17 k ∧ T 17 k ≤ 199998)
def RU (n : Int) (T : St) (k : Int) : Prop := (0 ≤ T 19 k ∧ T 19 k < n) ∧ (0 ≤ T 20 k ∧ T 20 k ≤ 512) ∧ (0 ≤ T 21 k ∧ T 21 k ≤ 1)
def MI (n nm : Int) (T : St) : Prop := ((0 ≤ n ∧ n ≤ 12) ∧ (0 ≤ nm ∧ nm ≤ 200) ∧ T 2 0 = n ∧ T 18 0 = nm ∧ (0 ≤ T 1 0 ∧ T 1 0 ≤ 511488) ∧ (0 ≤ T 3 0 ∧ T 3 0 ≤ 511)) ∧
  (∀ i, 0 ≤ i → i < n → RT n T i) ∧ (∀ i j, 0 ≤ i → i < n → 0 ≤ j → j < T 15 i → RP T (8 * i + j)) ∧ (∀ k, 0 ≤ k → k < nm → RU n T k) ∧ ∀ i, 0 ≤ i → i < n → ends (T 4) 12 i
section MIS
variable {n nm : Int} {T : St}
theorem MI.top (h : MI n nm T) : (0 ≤ n ∧ n ≤ 12) ∧ (0 ≤ nm ∧ nm ≤ 200) ∧ T 2 0 = n ∧ T 18 0 = nm ∧ (0 ≤ T 1 0 ∧ T 1 0 ≤ 511488) ∧ (0 ≤ T 3 0 ∧ T 3 0 ≤ 511) := h.1
theorem MI.ins (h : MI n nm T) {i : Int} (h0 : 0 ≤ i) (h1 : i < n) : RT n T i := h.2.1 i h0 h1
theorem MI.pts (h : MI n nm T) {i j : Int} (h0 : 0 ≤ i) (h1 : i < n) (h2 : 0 ≤ j) (h3 : j < T 15 i) : RP T (8 * i + j) := h.2.2.1 i j h0 h1 h2 h3
theorem MI.mea (h : MI n nm T) {k : Int} (h0 : 0 ≤ k) (h1 : k < nm) : RU n T k := h.2.2.2.1 k h0 h1
theorem MI.ends (h : MI n nm T) {i : Int} (h0 : -1 ≤ i) (h1 : i < n) : ends (T 4) 12 i := by
  by_cases hi : 0 ≤ i
  · exact h.2.2.2.2 i hi h1
  · exact ends_neg (by omega) _
end MIS
