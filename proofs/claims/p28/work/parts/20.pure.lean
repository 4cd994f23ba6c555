/-! pure rows of whole: the states of a second telling of the document, as numbers (a ghost: no code) -/
section MWS
variable {base : Nat} {ca : Nat → ClassId} {am : Nat → Nat} {th : Int} {T : St} {w : Wd}
end MWS
section MROWS
variable {p : Program} {l : Launch} {e : Env} {R : Room} {s : State} {m : MethodId} {args : Array Value} {below : List Frame} {meth : Method} {c : Code} {Q : State → Prop} {D : va_G} {ca : Nat → ClassId} {base nL k n pc q : Nat} {lv lv' : List (Nat × Value)} {st : List Value} {w : Wd} {y : MethodName} {cc : ByteArray} {ret : Option FieldType} {am : Nat → Nat} {th : Int} {T : St}
end MROWS
/-- what the model's numbers keep to -/
def RT (n : Int) (T : St) (i : Int) : Prop := (-1 ≤ T 4 i ∧ T 4 i < n) ∧ (1 ≤ T 5 i ∧ T 5 i ≤ 9999) ∧ (0 ≤ T 6 i ∧ T 6 i ≤ 999) ∧ (1 ≤ T 7 i ∧ T 7 i ≤ 999) ∧ (0 ≤ T 8 i ∧ T 8 i ≤ 512) ∧ (-1 ≤ T 9 i ∧ T 9 i < n) ∧ (0 ≤ T 10 i ∧ T 10 i ≤ 511488) ∧ (0 ≤ T 11 i ∧ T 11 i ≤ 512487) ∧ (-99999 ≤ T 12 i ∧ T 12 i ≤ 99999) ∧ (0 ≤ T 13 i ∧ T 13 i ≤ 1) ∧ (0 ≤ T 14 i ∧ T 14 i ≤ 512) ∧ (0 ≤ T 15 i ∧ T 15 i ≤ 8)
def RP (T : St) (k : Int) : Prop := (1 ≤ T 16 k ∧ T 16 k ≤ 511488) ∧ (-199998 ≤ T 17 k ∧ T 17 k ≤ 199998)
def RU (n : Int) (T : St) (k : Int) : Prop := (0 ≤ T 19 k ∧ T 19 k < n) ∧ (0 ≤ T 20 k ∧ T 20 k ≤ 512) ∧ (0 ≤ T 21 k ∧ T 21 k ≤ 1)
def MI (n nm : Int) (T : St) : Prop := ((0 ≤ n ∧ n ≤ 12) ∧ (0 ≤ nm ∧ nm ≤ 200) ∧ T 2 0 = n ∧ T 18 0 = nm ∧ (0 ≤ T 1 0 ∧ T 1 0 ≤ 511488) ∧ (0 ≤ T 3 0 ∧ T 3 0 ≤ 511)) ∧
  (∀ i, 0 ≤ i → i < n → RT n T i) ∧ (∀ i j, 0 ≤ i → i < n → 0 ≤ j → j < T 15 i → RP T (8 * i + j)) ∧ (∀ k, 0 ≤ k → k < nm → RU n T k) ∧ ∀ i, 0 ≤ i → i < n → ends (T 4) 12 i
section MIS
variable {n nm : Int} {T : St}
theorem MI.top (h : MI n nm T) : (0 ≤ n ∧ n ≤ 12) ∧ (0 ≤ nm ∧ nm ≤ 200) ∧ T 2 0 = n ∧ T 18 0 = nm ∧ (0 ≤ T 1 0 ∧ T 1 0 ≤ 511488) ∧ (0 ≤ T 3 0 ∧ T 3 0 ≤ 511) := h.1
theorem MI.ins (h : MI n nm T) {i : Int} (h0 : 0 ≤ i) (h1 : i < n) : RT n T i := h.2.1 i h0 h1
theorem MI.pts (h : MI n nm T) {i j : Int} (h0 : 0 ≤ i) (h1 : i < n) (h2 : 0 ≤ j) (h3 : j < T 15 i) : RP T (8 * i + j) := h.2.2.1 i j h0 h1 h2 h3
theorem MI.mea (h : MI n nm T) {k : Int} (h0 : 0 ≤ k) (h1 : k < nm) : RU n T k := h.2.2.2.1 k h0 h1
theorem MI.ends (h : MI n nm T) {i : Int} (h0 : -1 ≤ i) (h1 : i < n) : ends (T 4) 12 i := by
  by_cases hi : 0 ≤ i
  · exact h.2.2.2.2 i hi h1
  · exact ends_neg (by omega) _
end MIS
theorem tf_1 {c : Prop} [Decidable c] (h : tf c ≠ 0) : c := Classical.byContradiction fun z => h (tf_f z)
theorem tf_0 {c : Prop} [Decidable c] (h : tf c = 0) : ¬ c := fun z => by rw [tf_t z] at h; cases h
theorem tf_i {c : Prop} [Decidable c] : tf (tf c = 0) = 1 - tf c := by
  by_cases h : c
  · rw [tf_t h]; rfl
  · rw [tf_f h]; rfl
def inM (T : St) (i : Int) : Int := tf (0 < T 8 i ∧ T 1 0 ≤ T 11 i ∧ T 13 i = 0)
theorem inM_b (T : St) (i : Int) : 0 ≤ inM T i ∧ inM T i ≤ 1 := tf_b _
theorem smk {g : Int → Int} {a k : Int} (h : a ≤ k) : sm (fun j => g (a + j)) (k + 1 - a).toNat = sm (fun j => g (a + j)) (k - a).toNat + g k := by
  rw [show k + 1 - a = (k - a) + 1 by omega, sm_s (by omega), show a + (k - a) = k by omega]
theorem sm_a {f : Int → Int} {B : Int} : ∀ {k : Nat}, (∀ i : Int, 0 ≤ i → i < k → -B ≤ f i ∧ f i ≤ B) → -(B * k) ≤ sm f k ∧ sm f k ≤ B * k
  | 0, _ => by simp [sm]
  | k + 1, h => by
    have h1 := sm_a (k := k) fun i a b => h i a (by omega)
    have h2 := h k (by omega) (by omega)
    have e : B * ((k + 1 : Nat) : Int) = B * k + B := by rw [Int.natCast_add, Int.mul_add]; simp
    rw [e]
    show -(B * k + B) ≤ sm f k + f k ∧ sm f k + f k ≤ B * k + B
    omega
theorem sm_pos {f : Int → Int} : ∀ {k : Nat}, (∀ i : Int, 0 ≤ i → i < k → 1 ≤ f i) → (k : Int) ≤ sm f k
  | 0, _ => by simp [sm]
  | k + 1, h => by
    have h1 := sm_pos (k := k) fun i a b => h i a (by omega)
    have h2 := h k (by omega) (by omega)
    show ((k + 1 : Nat) : Int) ≤ sm f k + f k
    omega
def pp (T : St) : Int → Int := fun k => T 16 k * T 17 k
def pq (T : St) : Int → Int := fun k => T 16 k * T 16 k
def pP (T : St) (z : Int) : Int := sm (fun j => pp T (8 * z + j)) (T 15 z).toNat
def pQ (T : St) (z : Int) : Int := sm (fun j => pq T (8 * z + j)) (T 15 z).toNat
theorem pp_b {T : St} {k : Int} (h : RP T k) : (-102297600000 ≤ pp T k ∧ pp T k ≤ 102297600000) ∧ (1 ≤ pq T k ∧ pq T k ≤ 261700000000) := by
  obtain ⟨h1, h2⟩ := h
  have h3 := mul_rng h2 (show 0 ≤ T 16 k ∧ T 16 k ≤ 511488 by omega) (by decide)
  have h4 := sq_r (show 0 ≤ T 16 k ∧ T 16 k ≤ 511488 by omega)
  have h5 : T 16 k * 1 ≤ T 16 k * T 16 k := Int.mul_le_mul_of_nonneg_left h1.1 (by omega)
  have h6 : pp T k = T 17 k * T 16 k := Int.mul_comm _ _
  have h7 : pq T k = T 16 k * T 16 k := rfl
  omega
theorem pP_b {n nm : Int} {T : St} (hI : MI n nm T) {z : Int} (hz : 0 ≤ z ∧ z < n) : (-900000000000 ≤ pP T z ∧ pP T z ≤ 900000000000) ∧ (0 ≤ pQ T z ∧ pQ T z ≤ 2200000000000) ∧ (pQ T z ≤ 0 ↔ T 15 z = 0) := by
  obtain ⟨-, -, -, -, -, -, -, -, -, -, -, h15⟩ := hI.ins hz.1 hz.2
  have g : ∀ i : Int, 0 ≤ i → i < ((T 15 z).toNat : Nat) → RP T (8 * z + i) := fun i a b => hI.pts hz.1 hz.2 a (by omega)
  have h1 := sm_a (f := fun j => pp T (8 * z + j)) (k := (T 15 z).toNat) fun i a b => (pp_b (g i a b)).1
  have h2 := sm_a (f := fun j => pq T (8 * z + j)) (B := 261700000000) (k := (T 15 z).toNat) fun i a b => by
    have := (pp_b (g i a b)).2
    show -261700000000 ≤ pq T (8 * z + i) ∧ pq T (8 * z + i) ≤ 261700000000
    omega
  have h3 := sm_pos (f := fun j => pq T (8 * z + j)) (k := (T 15 z).toNat) fun i a b => (pp_b (g i a b)).2.1
  have e1 : pP T z = sm (fun j => pp T (8 * z + j)) (T 15 z).toNat := rfl
  have e2 : pQ T z = sm (fun j => pq T (8 * z + j)) (T 15 z).toNat := rfl
  rw [← e1] at h1
  rw [← e2] at h2 h3
  have e3 : pQ T z ≤ 0 ↔ T 15 z = 0 := by
    constructor
    · intro h; omega
    · intro h
      rw [e2, h]
      exact Int.le_refl 0
  omega
def errM (T : St) (z d : Int) : Int := if pQ T z ≤ 0 then T 12 z else T 12 z + pP T z * d / pQ T z
theorem errM_b {n nm : Int} {T : St} (hI : MI n nm T) {z d : Int} (hz : 0 ≤ z ∧ z < n) (hd : 0 ≤ d ∧ d ≤ 9999) : -9000000000000000 ≤ errM T z d ∧ errM T z d ≤ 9000000000000000 := by
  obtain ⟨-, -, -, -, -, -, -, -, h12, -, -, h15⟩ := hI.ins hz.1 hz.2
  obtain ⟨h1, h2, h3⟩ := pP_b hI hz
  unfold errM
  split
  · omega
  · have h4 := mul_rng h1 hd (by decide)
    have h5 := ediv_rng (x := pP T z * d) (y := pQ T z) (900000000000 * 9999) h4 (by omega) (by decide)
    omega
theorem tmod_neg {x y : Int} (hy : 1 ≤ y) : x / y = if x.tmod y < 0 then x.tdiv y - 1 else x.tdiv y := by
  have h1 := Int.mul_tdiv_add_tmod x y
  rw [fdiv_lem hy]
  by_cases hx : x < 0
  · have h5 : x.tmod y ≤ 0 := (by have := Int.tmod_nonneg (a := -x) y (by omega); rw [Int.neg_tmod] at this; omega)
    by_cases hz : x.tdiv y * y = x
    · rw [if_neg (fun z => z.2 hz), if_neg (by rw [Int.mul_comm] at hz; omega)]
    · rw [if_pos ⟨hx, hz⟩, if_pos (by rw [Int.mul_comm] at hz; omega)]
  · have h5 := Int.tmod_nonneg (a := x) y (by omega)
    rw [if_neg (fun z => hx z.1), if_neg (by omega)]
def oM (T : St) (z : Int) : Int → Int := fun d => tf (T 5 z < iabs (errM T z d))
theorem drF_s {o : Int → Int} {k : Nat} {d : Int} (h : o d ≠ 1) : drF o (k + 1) d = drF o k (d + 1) := by rw [drF, if_neg h]
theorem drF_e {o : Int → Int} {k : Nat} {d : Int} (h : o d = 1) : drF o (k + 1) d = d := by rw [drF, if_pos h]
def an (ref : Int → Int) : Nat → Int → Int
  | 0, u => u
  | k + 1, u => an ref k (ref u)
theorem an_s {ref : Int → Int} : ∀ (k : Nat) (u : Int), an ref (k + 1) u = ref (an ref k u)
  | 0, _ => rfl
  | k + 1, u => an_s k (ref u)
theorem rt_sq {a : Int} (h : 0 ≤ a ∧ a ≤ 999) : rt (a * a + 0 * 0) = a := by
  have hs := sq_r h
  refine (rt_of (by omega) ⟨h.1, by omega, fun t t0 t1 => ?_⟩).symm
  have h1 : t * t ≤ t * a := Int.mul_le_mul_of_nonneg_left (by omega) t0
  have h2 : t * a ≤ (a - 1) * a := Int.mul_le_mul_of_nonneg_right (by omega) h.1
  have h3 : (a - 1) * a = a * a - a := by rw [Int.sub_mul, Int.one_mul]
  omega
def exC (n : Int) (T : St) (z d : Int) : Int := if 0 ≤ z ∧ z < n then (if 0 ≤ d ∧ d ≤ 9999 then (if 0 < T 8 z then 0 else 3) else 2) else 1
def wcv (T : St) (z h k : Int) : Int := if k = h then 0 else unc (T 4) (T 6) (12 - (k + 1)).toNat (an (T 4) (k + 1).toNat z)
theorem wc1 {T : St} {z h : Int} (hh : 0 ≤ h ∧ h ≤ 11) (ha : 0 ≤ an (T 4) h.toNat z) (hr : T 4 (an (T 4) h.toNat z) = -1) (h6 : 0 ≤ T 6 (an (T 4) h.toNat z) ∧ T 6 (an (T 4) h.toNat z) ≤ 999) : T 6 (an (T 4) h.toNat z) = wcv T z h (h - 1) := by
  rw [wcv, if_neg (by omega), show h - 1 + 1 = h by omega, show (12 - h).toNat = (11 - h).toNat + 1 by omega, unc_s ha, hr, unc_n (by decide), rt_sq h6]
theorem wc2 {T : St} {z h k v : Int} (hk : 0 ≤ k ∧ k < h) (hh : h ≤ 11) (ha : 0 ≤ an (T 4) k.toNat z) (hv : v = wcv T z h k) : rt (T 6 (an (T 4) k.toNat z) * T 6 (an (T 4) k.toNat z) + v * v) = wcv T z h (k - 1) := by
  rw [hv, wcv, wcv, if_neg (by omega), if_neg (by omega), show k - 1 + 1 = k by omega, show (12 - k).toNat = (12 - (k + 1)).toNat + 1 by omega, unc_s ha, show (k + 1).toNat = k.toNat + 1 by omega, an_s]
theorem wcv_b {n nm : Int} {T : St} (hI : MI n nm T) {z h k : Int} (hk : -1 ≤ k ∧ k ≤ h) (hh : h ≤ 11) (hz : ∀ j : Nat, j ≤ h.toNat → 0 ≤ an (T 4) j z ∧ an (T 4) j z < n) : 0 ≤ wcv T z h k ∧ wcv T z h k ≤ 11988 := by
  unfold wcv
  split
  · decide
  · have h1 := hz (k + 1).toNat (by omega)
    have h2 := unc_b (ref := T 4) (own := T 6) (n := n) (fun i a b => by
      obtain ⟨g1, -, g2, -⟩ := hI.ins a b
      exact ⟨g1, g2⟩) (12 - (k + 1)).toNat (an (T 4) (k + 1).toNat z) (by omega) (by omega) h1.2
    omega
def ahm (T : St) (z i : Int) : Int := tf (0 < T 8 i ∧ (T 11 i < T 11 z ∨ (T 11 i = T 11 z ∧ i < z)))
def dob (n : Int) (T : St) (z e : Int) : Int := T 1 0 + (sm (ahm T z) n.toNat).tdiv e
def latm (n : Int) (T : St) (e i : Int) : Int := tf (0 < T 8 i ∧ T 11 i < dob n T i e)
theorem ahm_b {n : Int} (hn : 0 ≤ n ∧ n ≤ 12) (T : St) (z : Int) : 0 ≤ sm (ahm T z) n.toNat ∧ sm (ahm T z) n.toNat ≤ 12 := by
  have := sm_b (f := ahm T z) (fun i => tf_b _) n.toNat
  omega
def cbC (nm z : Int) : Int := if 0 ≤ z ∧ z < nm then 0 else 1
def bdC (n z e : Int) : Int := if 0 ≤ z ∧ z < n then (if 1 ≤ e ∧ e ≤ 12 then 0 else 2) else 1
def ltC (e : Int) : Int := if 1 ≤ e ∧ e ≤ 12 then 0 else 1
def psC (d : Int) : Int := if 1 ≤ d ∧ d ≤ 999 then 0 else 1
def rfC (n : Int) (T : St) (z r : Int) : Int := if (0 ≤ z ∧ z < n) ∧ (r = -1 ∨ (0 ≤ r ∧ r < n)) then (if r ≠ -1 ∧ inCh (T 4) 12 r z = 1 then 2 else 0) else 1
def tlC (n r t u v : Int) : Int := if r = -1 ∨ (0 ≤ r ∧ r < n) then (if (1 ≤ t ∧ t ≤ 9999) ∧ (0 ≤ u ∧ u ≤ 999) ∧ (1 ≤ v ∧ v ≤ 999) then (if n = 12 then 3 else 0) else 2) else 1
def tlM (T : St) (n r t u v : Int) : St := up (up (up (up (up T 4 n r) 5 n t) 6 n u) 7 n v) 2 0 (n + 1)
def msC (n nm : Int) (T : St) (z : Int) : Int := if 0 ≤ z ∧ z < n then (if fof (T 4) (inM T) 12 z ≠ -1 ∨ nm = 200 then 2 else 0) else 1
def msM (T : St) (nm z : Int) : St := up (up (up (up T 3 0 (T 3 0 + 1)) 19 nm z) 20 nm (T 3 0 + 1)) 18 0 (nm + 1)
theorem bt_n (b : Nat) : (iI (b : Int)).toBitVec = BitVec.ofNat 32 b := by rw [Int32.toBitVec_ofInt, BitVec.ofInt_natCast]
theorem bt_sm : ∀ i : Fin 12, ((iI ((i.val : Nat) : Int) &&& 31).toBitVec.smod 32).toNat = i.val := by decide
theorem bt_or {a b : Nat} : iI (a : Int) ||| iI (b : Int) = iI ((a ||| b : Nat) : Int) := by
  refine Int32.toBitVec.inj ?_
  rw [Int32.toBitVec_or, bt_n, bt_n, bt_n, BitVec.ofNat_or]
theorem bt_shl : ∀ i : Fin 12, iI 1 <<< (iI ((i.val : Nat) : Int) &&& 31) = iI ((2 ^ i.val : Nat) : Int) := by decide
theorem bt_shr {b i : Nat} (hb : b < 4096) (hi : i < 12) : iI (b : Int) >>> (iI (i : Int) &&& 31) = iI ((b >>> i : Nat) : Int) := by
  refine Int32.toBitVec.inj ?_
  rw [Int32.toBitVec_shiftRight, bt_n, bt_n, BitVec.sshiftRight_eq', bt_sm ⟨i, hi⟩, BitVec.sshiftRight_eq_of_msb_false]
  · apply BitVec.eq_of_toNat_eq
    rw [BitVec.toNat_ushiftRight, BitVec.toNat_ofNat, BitVec.toNat_ofNat, Nat.mod_eq_of_lt (by omega), Nat.mod_eq_of_lt]
    rw [Nat.shiftRight_eq_div_pow]
    exact Nat.lt_of_le_of_lt (Nat.div_le_self _ _) (by omega)
  · rw [BitVec.msb_eq_decide, BitVec.toNat_ofNat, Nat.mod_eq_of_lt (by omega)]
    exact decide_eq_false (by omega)
theorem bt_and {b : Nat} : iI (b : Int) &&& iI 1 = iI ((b % 2 : Nat) : Int) := by
  refine Int32.toBitVec.inj ?_
  rw [Int32.toBitVec_and, show iI 1 = iI ((1 : Nat) : Int) from rfl, bt_n, bt_n, bt_n, ← BitVec.ofNat_and, Nat.and_one_is_mod]
def hs (b : Nat) (z : Int) : Int := tf (b.testBit z.toNat = true)
theorem hs_b (b : Nat) (z : Int) : 0 ≤ hs b z ∧ hs b z ≤ 1 := by unfold hs tf; split <;> decide
theorem hs_1 {b : Nat} {z : Int} : hs b z = 1 ↔ b.testBit z.toNat = true := ⟨fun h => tf_1 (fun q => by rw [hs, q] at h; cases h), fun h => tf_t h⟩
theorem bt_has {b : Nat} {z : Int} (hb : b < 4096) (h0 : 0 ≤ z) (h1 : z < 12) : (iI (b : Int) >>> (iI z &&& 31)) &&& iI 1 = iI (hs b z) := by
  obtain ⟨i, rfl⟩ : ∃ i : Nat, z = (i : Int) := ⟨z.toNat, (Int.toNat_of_nonneg h0).symm⟩
  rw [bt_shr hb (by omega), bt_and]
  congr 1
  unfold hs tf
  rw [Int.toNat_natCast, Nat.testBit_eq_decide_div_mod_eq, ← Nat.shiftRight_eq_div_pow]
  by_cases h : b >>> i % 2 = 1
  · rw [h]; rfl
  · rw [if_neg (by rw [decide_eq_true_iff]; exact h), show b >>> i % 2 = 0 by omega]; rfl
theorem bt_bit {z : Int} (h0 : 0 ≤ z) (h1 : z < 12) : iI 1 <<< (iI z &&& 31) = iI ((2 ^ z.toNat : Nat) : Int) := by
  obtain ⟨i, rfl⟩ : ∃ i : Nat, z = (i : Int) := ⟨z.toNat, (Int.toNat_of_nonneg h0).symm⟩
  exact bt_shl ⟨i, by omega⟩
theorem hs_or {b : Nat} {k z : Int} (hk : 0 ≤ k) (hz : 0 ≤ z) : hs (b ||| 2 ^ k.toNat) z = 1 ↔ hs b z = 1 ∨ z = k := by
  rw [hs_1, hs_1, Nat.testBit_or, Nat.testBit_two_pow, Bool.or_eq_true, decide_eq_true_iff]
  constructor
  · rintro (h | h)
    · exact Or.inl h
    · exact Or.inr (by omega)
  · rintro (h | h)
    · exact Or.inl h
    · exact Or.inr (by omega)
theorem or_b {b : Nat} {k : Int} (hb : b < 4096) (h0 : 0 ≤ k) (h1 : k < 12) : b ≤ b ||| 2 ^ k.toNat ∧ b ||| 2 ^ k.toNat < 4096 :=
  ⟨Nat.left_le_or, Nat.or_lt_two_pow (n := 12) hb (Nat.pow_lt_pow_right (by decide) (by omega))⟩
theorem bit_b {k : Int} (h0 : 0 ≤ k) (h1 : k < 12) : 1 ≤ 2 ^ k.toNat ∧ 2 ^ k.toNat < 4096 := ⟨Nat.one_le_two_pow, Nat.pow_lt_pow_right (n := 12) (by decide) (by omega)⟩
theorem hs_bit {k z : Int} (h0 : 0 ≤ k) (hz : 0 ≤ z) : hs (2 ^ k.toNat) z = 1 ↔ z = k := by
  rw [hs_1, Nat.testBit_two_pow, decide_eq_true_iff]
  omega
theorem hs_0 {z : Int} : hs 0 z = 0 := by
  unfold hs
  rw [Nat.zero_testBit]
  rfl
/-- u reaches z by what it was made with -/
def cnd (T : St) (u : Int) : Prop := 0 < T 8 u ∧ T 9 u ≠ -1 ∧ T 8 (T 9 u) < T 8 u
def rcF (T : St) (z : Int) : Nat → Int → Int
  | 0, _ => 0
  | k + 1, u => if u = z then 1 else if 0 < T 8 u ∧ T 9 u ≠ -1 ∧ T 8 (T 9 u) < T 8 u then rcF T z k (T 9 u) else 0
def clo (n : Int) (T : St) (had b : Nat) (k : Int) : Prop := ∀ u, 0 ≤ u → u < k → cnd T u → hs had (T 9 u) = 1 → hs b u = 1
theorem rc_all {n : Int} {T : St} {z : Int} {b : Nat} (h9 : ∀ u, 0 ≤ u → u < n → T 9 u < n ∧ -1 ≤ T 9 u) (hz : hs b z = 1) (hc : clo n T b b n) : ∀ (f : Nat) (u : Int), 0 ≤ u → u < n → rcF T z f u = 1 → hs b u = 1
  | 0, _, _, _, h => by cases h
  | f + 1, u, h0, h1, h => by
    rw [rcF] at h
    by_cases c : u = z
    · rw [c]; exact hz
    · rw [if_neg c] at h
      by_cases d : 0 < T 8 u ∧ T 9 u ≠ -1 ∧ T 8 (T 9 u) < T 8 u
      · rw [if_pos d] at h
        have := h9 u h0 h1
        exact hc u h0 h1 d (rc_all h9 hz hc f (T 9 u) (by omega) this.1 h)
      · rw [if_neg d] at h; cases h
theorem rc_st {T : St} {z u : Int} (hc : cnd T u) (h : ∃ f, rcF T z f (T 9 u) = 1) : ∃ f, rcF T z f u = 1 := by
  obtain ⟨f, hf⟩ := h
  refine ⟨f + 1, ?_⟩
  rw [rcF]
  by_cases c : u = z
  · rw [if_pos c]
  · rw [if_neg c, if_pos (show 0 < T 8 u ∧ T 9 u ≠ -1 ∧ T 8 (T 9 u) < T 8 u from hc), hf]
def rq (T : St) (b : Nat) (k : Int) : Prop := hs b (T 19 k) = 1 ∧ T 8 (T 19 k) < T 20 k ∧ T 21 k = 0
abbrev rqI (T : St) (b : Nat) (k : Int) : Int := tf (hs b (T 19 k) = 1 ∧ T 8 (T 19 k) < T 20 k ∧ T 21 k = 0)
/-- the measurements below k called back -/
def rcC (T : St) (b : Nat) (mn k : Int) : St := fun g j => if g = 21 ∧ 0 ≤ j ∧ j < k ∧ rqI T b j = 1 then mn else T g j
theorem rcC_o {T : St} {b : Nat} {mn k : Int} {g : Nat} {j : Int} (h : g ≠ 21) : rcC T b mn k g j = T g j := by
  unfold rcC
  rw [if_neg (fun z => h z.1)]
theorem rcC_at {T : St} {b : Nat} {mn k : Int} : rcC T b mn k 21 k = T 21 k := by
  unfold rcC
  rw [if_neg (by omega)]
theorem rcC_0 {T : St} {b : Nat} {mn : Int} : rcC T b mn 0 = T := by
  funext g j
  unfold rcC
  rw [if_neg (by omega)]
theorem rcC_y {T : St} {b : Nat} {mn k : Int} (h0 : 0 ≤ k) (h : rqI T b k = 1) : up (rcC T b mn k) 21 k mn = rcC T b mn (k + 1) := by
  funext g j
  unfold up rcC
  by_cases hg : g = 21
  · subst hg
    by_cases hj : j = k
    · subst hj
      rw [if_pos rfl, if_pos rfl, if_pos ⟨rfl, h0, by omega, h⟩]
    · rw [if_pos rfl, if_neg hj]
      by_cases c : 0 ≤ j ∧ j < k ∧ rqI T b j = 1
      · rw [if_pos ⟨rfl, c⟩, if_pos ⟨rfl, c.1, by omega, c.2.2⟩]
      · rw [if_neg (fun z => c z.2), if_neg (fun z => c ⟨z.2.1, by omega, z.2.2.2⟩)]
  · rw [if_neg hg, if_neg (fun z => hg z.1), if_neg (fun z => hg z.1)]
theorem rcC_n {T : St} {b : Nat} {mn k : Int} (h : rqI T b k ≠ 1) : rcC T b mn k = rcC T b mn (k + 1) := by
  funext g j
  unfold rcC
  by_cases c : g = 21 ∧ 0 ≤ j ∧ j < k ∧ rqI T b j = 1
  · rw [if_pos c, if_pos ⟨c.1, c.2.1, by omega, c.2.2.2⟩]
  · rw [if_neg c, if_neg (fun z => c ⟨z.1, z.2.1, (by
      have : j ≠ k := fun q => h (q ▸ z.2.2.2)
      omega), z.2.2.2⟩)]
theorem rcC_f {T : St} {b : Nat} {k : Int} : rcC T b 0 k = T := by
  funext g j
  unfold rcC
  split
  · next h =>
    obtain ⟨rfl, -, -, h⟩ := h
    have := tf_1 (show rqI T b j ≠ 0 from h ▸ by decide)
    exact this.2.2.symm
  · rfl
/-- the suspects below k -/
def suC (T : St) (b : Nat) (z k : Int) : St := fun g j => if g = 13 ∧ 0 ≤ j ∧ j < k then tf (T 13 j ≠ 0 ∨ (hs b j = 1 ∧ j ≠ z)) else T g j
theorem suC_o {T : St} {b : Nat} {z k : Int} {g : Nat} {j : Int} (h : g ≠ 13) : suC T b z k g j = T g j := by
  unfold suC
  rw [if_neg (fun z => h z.1)]
theorem suC_at {T : St} {b : Nat} {z k : Int} : suC T b z k 13 k = T 13 k := by
  unfold suC
  rw [if_neg (by omega)]
theorem suC_0 {T : St} {b : Nat} {z : Int} : suC T b z 0 = T := by
  funext g j
  unfold suC
  rw [if_neg (by omega)]
theorem suC_s {T : St} {b : Nat} {z k v : Int} (h0 : 0 ≤ k) (hv : v = tf (T 13 k ≠ 0 ∨ (hs b k = 1 ∧ k ≠ z))) : up (suC T b z k) 13 k v = suC T b z (k + 1) := by
  funext g j
  unfold up suC
  by_cases hg : g = 13
  · subst hg
    by_cases hj : j = k
    · subst hj
      rw [if_pos rfl, if_pos rfl, if_pos ⟨rfl, h0, by omega⟩, hv]
    · rw [if_pos rfl, if_neg hj]
      by_cases c : 0 ≤ j ∧ j < k
      · rw [if_pos ⟨rfl, c⟩, if_pos ⟨rfl, c.1, by omega⟩]
      · rw [if_neg (fun z => c z.2), if_neg (fun z => c ⟨z.2.1, by omega⟩)]
  · rw [if_neg hg, if_neg (fun z => hg z.1), if_neg (fun z => hg z.1)]
theorem MI.cong {n nm : Int} {T T' : St} (hI : MI n nm T) (h : ∀ g, g ≠ 13 → g ≠ 14 → T' g = T g) (h13 : ∀ i, 0 ≤ i → i < n → 0 ≤ T' 13 i ∧ T' 13 i ≤ 1) (h14 : ∀ i, 0 ≤ i → i < n → 0 ≤ T' 14 i ∧ T' 14 i ≤ 512) : MI n nm T' := by
  obtain ⟨h1, h2, h3, h4, h5⟩ := hI
  refine ⟨?_, fun i a b => ?_, fun i j a b c d => ?_, fun k a b => ?_, fun i a b => ?_⟩
  · rw [h 2 (by decide) (by decide), h 18 (by decide) (by decide), h 1 (by decide) (by decide), h 3 (by decide) (by decide)]; exact h1
  · obtain ⟨g0, g1, g2, g3, g4, g5, g6, g7, g8, -, -, g11⟩ := h2 i a b
    unfold RT
    rw [h 4 (by decide) (by decide), h 5 (by decide) (by decide), h 6 (by decide) (by decide), h 7 (by decide) (by decide), h 8 (by decide) (by decide), h 9 (by decide) (by decide), h 10 (by decide) (by decide), h 11 (by decide) (by decide), h 12 (by decide) (by decide), h 15 (by decide) (by decide)]
    exact ⟨g0, g1, g2, g3, g4, g5, g6, g7, g8, h13 i a b, h14 i a b, g11⟩
  · rw [h 15 (by decide) (by decide)] at d
    have := h3 i j a b c d
    unfold RP at this ⊢
    rw [h 16 (by decide) (by decide), h 17 (by decide) (by decide)]
    exact this
  · have := h4 k a b
    unfold RU at this ⊢
    rw [h 19 (by decide) (by decide), h 20 (by decide) (by decide), h 21 (by decide) (by decide)]
    exact this
  · rw [h 4 (by decide) (by decide)]
    exact h5 i a b
/-- what a failure of z brings -/
def faM (T : St) (b : Nat) (z n nm : Int) : St := rcC (suC (up T 14 z (T 14 z + 1)) b z n) b 1 nm
def cnM (T : St) (b : Nat) (nm : Int) : Int := sm (rqI T b) nm.toNat
/-- the points below k moved by one -/
def shC (T : St) (a k : Int) : St := fun g j => if (g = 16 ∨ g = 17) ∧ a ≤ j ∧ j < k then T g (j + 1) else T g j
theorem shC_at {T : St} {a k : Int} {g : Nat} : shC T a k g (k + 1) = T g (k + 1) := by
  unfold shC
  rw [if_neg (by omega)]
theorem shC_o {T : St} {a k : Int} {g : Nat} {j : Int} (h : g ≠ 16 ∧ g ≠ 17) : shC T a k g j = T g j := by
  unfold shC
  rw [if_neg (by omega)]
theorem shC_0 {T : St} {a : Int} : shC T a a = T := by
  funext g j
  unfold shC
  rw [if_neg (by omega)]
theorem shC_s {T : St} {a k : Int} (h : a ≤ k) : up (up (shC T a k) 16 k (T 16 (k + 1))) 17 k (T 17 (k + 1)) = shC T a (k + 1) := by
  funext g j
  by_cases h17 : g = 17
  · subst h17
    by_cases hj : j = k
    · subst hj
      rw [up_s, shC, if_pos (by omega)]
    · rw [up_i hj, up_f (by decide)]
      unfold shC
      by_cases c : a ≤ j ∧ j < k
      · rw [if_pos ⟨Or.inr rfl, c⟩, if_pos ⟨Or.inr rfl, c.1, by omega⟩]
      · rw [if_neg (fun q => c q.2), if_neg (fun q => c ⟨q.2.1, by omega⟩)]
  · rw [up_f h17]
    by_cases h16 : g = 16
    · subst h16
      by_cases hj : j = k
      · subst hj
        rw [up_s, shC, if_pos (by omega)]
      · rw [up_i hj]
        unfold shC
        by_cases c : a ≤ j ∧ j < k
        · rw [if_pos ⟨Or.inl rfl, c⟩, if_pos ⟨Or.inl rfl, c.1, by omega⟩]
        · rw [if_neg (fun q => c q.2), if_neg (fun q => c ⟨q.2.1, by omega⟩)]
    · rw [up_f h16, shC_o ⟨h16, h17⟩, shC_o ⟨h16, h17⟩]
def lpA (T : St) (z : Int) : St := if T 15 z = 8 then up (shC T (8 * z) (8 * z + 7)) 15 z 7 else T
def lpS (T : St) (z d e : Int) : St := up (up (up (lpA T z) 16 (8 * z + lpA T z 15 z) d) 17 (8 * z + lpA T z 15 z) e) 15 z (lpA T z 15 z + 1)
def kaC (n : Int) (T : St) (z x lf : Int) : Int := if 0 ≤ z ∧ z < n then (if (-99999 ≤ x ∧ x ≤ 99999) ∧ (-99999 ≤ lf ∧ lf ≤ 99999) then (if fof (T 4) (inM T) 12 (T 4 z) = -1 then 0 else 3) else 2) else 1
def km1 (T : St) (b : Nat) (n nm z x : Int) : St := if T 5 z < iabs x then faM T b z n nm else T
def km2 (T : St) (b : Nat) (n nm z x : Int) : St := up (km1 T b n nm z x) 7 z (niv (T 5 z) (iabs x) (T 7 z))
def km3 (T : St) (b : Nat) (n nm z x : Int) : St := if T 10 z < T 1 0 then lpS (km2 T b n nm z x) z (T 1 0 - T 10 z) (x - T 12 z) else km2 T b n nm z x
def km4 (T : St) (b : Nat) (n nm z x : Int) : St := if 0 < T 8 z then km3 T b n nm z x else T
def kmS (T : St) (b : Nat) (n nm z x lf : Int) : St := up (up (up (up (up (up (up (km4 T b n nm z x) 3 0 (T 3 0 + 1)) 8 z (T 3 0 + 1)) 9 z (T 4 z)) 10 z (T 1 0)) 11 z (T 1 0 + km4 T b n nm z x 7 z)) 12 z lf) 13 z 0
def kmR (T : St) (b : Nat) (nm z x : Int) : Int := if 0 < T 8 z ∧ T 5 z < iabs x then cnM T b nm else 0
theorem faM_o {T : St} {b : Nat} {z n nm : Int} {g : Nat} {j : Int} (h : g ≠ 13 ∧ g ≠ 14 ∧ g ≠ 21) : faM T b z n nm g j = T g j := by
  rw [faM, rcC_o h.2.2, suC_o h.1, up_f h.2.1]
theorem km1_o {T : St} {b : Nat} {n nm z x : Int} {g : Nat} {j : Int} (h : g ≠ 13 ∧ g ≠ 14 ∧ g ≠ 21) : km1 T b n nm z x g j = T g j := by
  unfold km1
  split
  · exact faM_o h
  · rfl
theorem lpA_o {T : St} {z : Int} {g : Nat} {j : Int} (h : g ≠ 15 ∧ g ≠ 16 ∧ g ≠ 17) : lpA T z g j = T g j := by
  unfold lpA
  split
  · rw [up_f h.1, shC_o h.2]
  · rfl
theorem lpS_o {T : St} {z d e : Int} {g : Nat} {j : Int} (h : g ≠ 15 ∧ g ≠ 16 ∧ g ≠ 17) : lpS T z d e g j = T g j := by
  rw [lpS, up_f h.1, up_f h.2.2, up_f h.2.1, lpA_o h]
theorem km4_o {T : St} {b : Nat} {n nm z x : Int} {g : Nat} {j : Int} (h : (g ≠ 13 ∧ g ≠ 14 ∧ g ≠ 21) ∧ g ≠ 7 ∧ (g ≠ 15 ∧ g ≠ 16 ∧ g ≠ 17)) : km4 T b n nm z x g j = T g j := by
  unfold km4
  split
  · unfold km3
    split
    · rw [lpS_o h.2.2, km2, up_f h.2.1, km1_o h.1]
    · rw [km2, up_f h.2.1, km1_o h.1]
  · rfl
theorem bits_of (n : Nat) (P : Int → Prop) : n ≤ 12 → ∃ b : Nat, b < 2 ^ n ∧ ∀ u : Int, 0 ≤ u → u < n → (hs b u = 1 ↔ P u) := by
  induction n with
  | zero => exact fun _ => ⟨0, by decide, fun u a b => by omega⟩
  | succ k ih =>
    intro hk
    obtain ⟨b, hb, h⟩ := ih (by omega)
    by_cases hp : P k
    · refine ⟨b ||| 2 ^ ((k : Nat) : Int).toNat, Nat.or_lt_two_pow (Nat.lt_trans hb (Nat.pow_lt_pow_right (by decide) (by omega))) (Nat.pow_lt_pow_right (by decide) (by omega)), fun u a c => ?_⟩
      rw [hs_or (by omega) a]
      by_cases hu : u = k
      · subst hu; exact ⟨fun _ => hp, fun _ => Or.inr rfl⟩
      · rw [h u a (by omega)]
        exact ⟨fun q => q.elim id (fun q => absurd q hu), Or.inl⟩
    · refine ⟨b, Nat.lt_trans hb (Nat.pow_lt_pow_right (by decide) (by omega)), fun u a c => ?_⟩
      by_cases hu : u = k
      · subst hu
        refine ⟨fun q => ?_, fun q => absurd q hp⟩
        rw [hs_1, Int.toNat_natCast, Nat.testBit_lt_two_pow hb] at q
        cases q
      · exact h u a (by omega)
theorem rc_any {n nm : Int} {T : St} (hI : MI n nm T) (z : Int) : ∃ b : Nat, b < 4096 ∧ ((0 ≤ z ∧ z < n) → 0 < T 8 z → ∀ u, 0 ≤ u → u < n → (hs b u = 1 ↔ ∃ f, rcF T z f u = 1)) := by
  obtain ⟨hn, -⟩ := hI.top
  obtain ⟨b, hb, h⟩ := bits_of 12 (fun u => ∃ f, rcF T z f u = 1) (by decide)
  exact ⟨b, hb, fun _ _ u a c => h u a (by omega)⟩
theorem rc_set {n nm : Int} {T : St} (hI : MI n nm T) {z : Int} (_hz : 0 ≤ z ∧ z < n) : ∃ b : Nat, b < 4096 ∧ ∀ u, 0 ≤ u → u < n → (hs b u = 1 ↔ ∃ f, rcF T z f u = 1) := by
  obtain ⟨hn, -⟩ := hI.top
  obtain ⟨b, hb, h⟩ := bits_of 12 (fun u => ∃ f, rcF T z f u = 1) (by decide)
  exact ⟨b, hb, fun u a c => h u a (by omega)⟩
