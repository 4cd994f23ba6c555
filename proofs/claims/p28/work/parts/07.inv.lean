section JROWS3
variable {p : Program} {l : Launch} {e : Env} {R : Room} {s : State} {m : MethodId} {args : Array Value} {below : List Frame} {meth : Method} {c : Code} {Q : State → Prop} {D : va_G} {ca : Nat → ClassId} {base nL k n pc q : Nat} {lv lv' : List (Nat × Value)} {st : List Value} {w : Wd} {y : MethodName} {cc : ByteArray} {ret : Option FieldType}
theorem j_st (kk : J p l e R s m args below meth c Q D base nL k n pc lv st w) : J p l e R s m args below meth c Q D base nL k n pc lv st w := kk
theorem cat_rf (r : Option Nat) : (va_rf r).category = 1 := by cases r <;> rfl
theorem cat_i (x : Int32) : (Value.int x).category = 1 := rfl
theorem cat_l (x : Int64) : (Value.long x).category = 2 := rfl
theorem cat_r (x : Nat) : (Value.ref x).category = 1 := rfl
theorem cat_rfs {r : Option Nat} {x : Nat} (h : (va_rf r).category = x) : x = 1 := h.symm.trans (cat_rf r)
theorem j_getp (X : Cx p l s m args meth c y cc nL ret D ca base) {idx ci f : Nat} {ak : Int → Nat} {z : Int} {fs : List Value} {v : Value} (hf : FL y.cls idx ci f) (h0 : 0 ≤ z) (he : w (ak z) = some (.inr (ci, fs))) (hv : fs[f]? = some v) (d : decode cc pc = .ok (.getfield idx, 3)) (hq : pc + 3 = q) (kk : J p l e R s m args below meth c Q D base nL k n q lv (v :: st) w) : J p l e R s m args below meth c Q D base nL k n pc lv (va_rf (pt ak z) :: st) w := by
  rw [pt_s h0]
  exact j_get X hf he hv d hq kk
theorem j_ifnullp (X : Cx p l s m args meth c y cc nL ret D ca base) {ak : Int → Nat} {z : Int} {off : Int} {tgt : Nat} (d : decode cc pc = .ok (.ifnull off, 3)) (ht : (pc : Int) + off = (tgt : Int)) (hq : pc + 3 = q) (kt : z < 0 → J p l e R s m args below meth c Q D base nL k n tgt lv st w) (kf : 0 ≤ z → J p l e R s m args below meth c Q D base nL k n q lv st w) : J p l e R s m args below meth c Q D base nL k n pc lv (va_rf (pt ak z) :: st) w :=
  j_ifnull X d ht hq (fun h => kt (pt_none h)) (fun _ h => kf (pt_some h).1)
theorem j_ifnonnullp (X : Cx p l s m args meth c y cc nL ret D ca base) {ak : Int → Nat} {z : Int} {off : Int} {tgt : Nat} (d : decode cc pc = .ok (.ifnonnull off, 3)) (ht : (pc : Int) + off = (tgt : Int)) (hq : pc + 3 = q) (kt : 0 ≤ z → J p l e R s m args below meth c Q D base nL k n tgt lv st w) (kf : z < 0 → J p l e R s m args below meth c Q D base nL k n q lv st w) : J p l e R s m args below meth c Q D base nL k n pc lv (va_rf (pt ak z) :: st) w :=
  j_ifnonnull X d ht hq (fun _ h => kt (pt_some h).1) (fun h => kf (pt_none h))
theorem j_ifnull_r (X : Cx p l s m args meth c y cc nL ret D ca base) {a : Nat} {off : Int} (d : decode cc pc = .ok (.ifnull off, 3)) (hq : pc + 3 = q) (kk : J p l e R s m args below meth c Q D base nL k n q lv st w) : J p l e R s m args below meth c Q D base nL k n pc lv (.ref a :: st) w := by
  subst hq
  exact fun ls H locs hl hP hS => lv_ifnull X.1 X.2.1 d (kk ls H locs hl hP hS)
theorem j_ifnonnull_r (X : Cx p l s m args meth c y cc nL ret D ca base) {a : Nat} {off : Int} {tgt : Nat} (d : decode cc pc = .ok (.ifnonnull off, 3)) (ht : (pc : Int) + off = (tgt : Int)) (kk : J p l e R s m args below meth c Q D base nL k n tgt lv st w) : J p l e R s m args below meth c Q D base nL k n pc lv (.ref a :: st) w :=
  fun ls H locs hl hP hS => lv_ifnonnull X.1 X.2.1 d ht (kk ls H locs hl hP hS)
end JROWS3
def ends (ref : Int → Int) : Nat → Int → Prop
  | 0, u => u < 0
  | k + 1, u => u < 0 ∨ ends ref k (ref u)
theorem ends_neg {ref : Int → Int} {u : Int} (h : u < 0) : ∀ k, ends ref k u
  | 0 => h
  | _ + 1 => Or.inl h
theorem ends_up {ref : Int → Int} : ∀ {k : Nat} {u : Int}, ends ref k u → ends ref (k + 1) u
  | 0, _, h => Or.inl h
  | k + 1, u, h => h.elim Or.inl fun h => Or.inr (ends_up h)
theorem ends_st {ref : Int → Int} {k : Nat} {u : Int} (h : ends ref (k + 1) u) (h0 : 0 ≤ u) : ends ref k (ref u) := h.elim (fun z => absurd z (by omega)) id
theorem ends_0 {ref : Int → Int} {u : Int} (h : ends ref 0 u) : u < 0 := h
def RI (n nc : Int) (S : St) (i : Int) : Prop := S 10 i = i ∧ (1 ≤ S 11 i ∧ S 11 i ≤ 9999) ∧ (0 ≤ S 12 i ∧ S 12 i ≤ 999) ∧ (1 ≤ S 13 i ∧ S 13 i ≤ 999) ∧ (-1 ≤ S 14 i ∧ S 14 i < n) ∧ (-1 ≤ S 15 i ∧ S 15 i < nc) ∧ (0 ≤ S 16 i ∧ S 16 i ≤ 512) ∧ (-900000000000 ≤ S 17 i ∧ S 17 i ≤ 900000000000) ∧ (0 ≤ S 18 i ∧ S 18 i ≤ 2200000000000)
def RK (S : St) (j : Int) : Prop := (0 ≤ S 20 j ∧ S 20 j ≤ 512) ∧ (0 ≤ S 21 j ∧ S 21 j ≤ 511488) ∧ (-99999 ≤ S 22 j ∧ S 22 j ≤ 99999) ∧ (-1 ≤ S 23 j ∧ S 23 j < j) ∧ (-1 ≤ S 24 j ∧ S 24 j < j) ∧ (0 ≤ S 25 j ∧ S 25 j ≤ 1) ∧ (0 ≤ S 26 j ∧ S 26 j ≤ 1) ∧ (0 ≤ S 27 j ∧ S 27 j ≤ 1000000) ∧ (0 ≤ S 28 j ∧ S 28 j ≤ 511488) ∧ (-199998 ≤ S 29 j ∧ S 29 j ≤ 199998)
def RM (nc : Int) (S : St) (k : Int) : Prop := (0 ≤ S 30 k ∧ S 30 k ≤ 512) ∧ (0 ≤ S 31 k ∧ S 31 k < nc) ∧ (0 ≤ S 32 k ∧ S 32 k ≤ 1)
def IC (n nc nm : Int) (S : St) : Prop := ((0 ≤ n ∧ n ≤ 12) ∧ (0 ≤ nc ∧ nc ≤ 512) ∧ (0 ≤ nm ∧ nm ≤ 200) ∧ S 3 0 = n ∧ S 4 0 = nm ∧ (0 ≤ S 5 0 ∧ S 5 0 ≤ nc) ∧ True ∧ (0 ≤ S 7 0 ∧ S 7 0 ≤ 511488) ∧ (0 ≤ S 8 0 ∧ S 8 0 ≤ 512)) ∧
  (∀ i, 0 ≤ i → i < n → RI n nc S i) ∧ (∀ j, 0 ≤ j → j < nc → RK S j) ∧ (∀ k, 0 ≤ k → k < nm → RM nc S k) ∧ ∀ i, 0 ≤ i → i < n → ends (S 14) 12 i
section ICS
variable {n nc nm : Int} {S : St}
theorem IC.ins (h : IC n nc nm S) {i : Int} (h0 : 0 ≤ i) (h1 : i < n) : RI n nc S i := h.2.1 i h0 h1
theorem IC.kal (h : IC n nc nm S) {i : Int} (h0 : 0 ≤ i) (h1 : i < nc) : RK S i := h.2.2.1 i h0 h1
theorem IC.mea (h : IC n nc nm S) {i : Int} (h0 : 0 ≤ i) (h1 : i < nm) : RM nc S i := h.2.2.2.1 i h0 h1
theorem IC.ends (h : IC n nc nm S) {i : Int} (h0 : -1 ≤ i) (h1 : i < n) : ends (S 14) 12 i := by
  by_cases hi : 0 ≤ i
  · exact h.2.2.2.2 i hi h1
  · exact ends_neg (by omega) _
theorem IC.top (h : IC n nc nm S) : (0 ≤ n ∧ n ≤ 12) ∧ (0 ≤ nc ∧ nc ≤ 512) ∧ (0 ≤ nm ∧ nm ≤ 200) ∧ S 3 0 = n ∧ S 4 0 = nm ∧ (0 ≤ S 5 0 ∧ S 5 0 ≤ nc) ∧ True ∧ (0 ≤ S 7 0 ∧ S 7 0 ≤ 511488) ∧ (0 ≤ S 8 0 ∧ S 8 0 ≤ 512) := h.1
end ICS
/-- 1 or 0 -/
def tf (c : Prop) [Decidable c] : Int := if c then 1 else 0
theorem tf_t {c : Prop} [Decidable c] (h : c) : tf c = 1 := if_pos h
theorem tf_f {c : Prop} [Decidable c] (h : ¬ c) : tf c = 0 := if_neg h
theorem tf_b (c : Prop) [Decidable c] : 0 ≤ tf c ∧ tf c ≤ 1 := by unfold tf; split <;> decide
theorem b01 {z : Int} (h : 0 ≤ z ∧ z ≤ 1) : iI z = 0 ∨ iI z = 1 := by
  rcases (show z = 0 ∨ z = 1 by omega) with rfl | rfl
  · exact Or.inl rfl
  · exact Or.inr rfl
theorem tf_eq {c d : Prop} [Decidable c] [Decidable d] (h : c ↔ d) : tf c = tf d := by
  by_cases hc : c
  · rw [tf_t hc, tf_t (h.mp hc)]
  · rw [tf_f hc, tf_f (fun z => hc (h.mpr z))]
def inCh (ref : Int → Int) : Nat → Int → Int → Int
  | 0, _, _ => 0
  | k + 1, u, i => if u < 0 then 0 else if u = i then 1 else inCh ref k (ref u) i
theorem inCh_b (ref : Int → Int) : ∀ (k : Nat) (u i : Int), 0 ≤ inCh ref k u i ∧ inCh ref k u i ≤ 1
  | 0, _, _ => by simp [inCh]
  | k + 1, u, i => by
    unfold inCh
    split
    · decide
    · split
      · decide
      · exact inCh_b ref k _ _
def fof (ref inF : Int → Int) : Nat → Int → Int
  | 0, _ => -1
  | k + 1, u => if u < 0 then -1 else if inF u = 0 then u else fof ref inF k (ref u)
def len (ref : Int → Int) : Nat → Int → Int
  | 0, _ => 0
  | k + 1, u => if u < 0 then 0 else 1 + len ref k (ref u)
def inF (S : St) (i : Int) : Int := tf (0 ≤ S 15 i ∧ S 7 0 ≤ S 21 (S 15 i) + S 13 i ∧ S 26 (S 15 i) = 0)
def rst (S : St) (f mom : Int) : Nat → Int → Int
  | 0, _ => 0
  | k + 1, u => if u < 0 then 0 else if u = f then 1 else if S 27 u < mom then 0 else rst S f mom k (S 24 u)
theorem rst_b (S : St) (f mom : Int) : ∀ (k : Nat) (u : Int), 0 ≤ rst S f mom k u ∧ rst S f mom k u ≤ 1
  | 0, _ => by simp [rst]
  | k + 1, u => by
    unfold rst
    split
    · decide
    · split
      · decide
      · split
        · decide
        · exact rst_b S f mom k _
