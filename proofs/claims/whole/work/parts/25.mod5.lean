theorem bt_n (b : Nat) : (iI (b : Int)).toBitVec = BitVec.ofNat 32 b := by rw [Int32.toBitVec_ofInt, BitVec.ofInt_natCast]
theorem bt_sm : ∀ i : Fin 12, ((iI ((i.val : Nat) : Int) &&& 31).toBitVec.smod 32).toNat = i.val := by decide
theorem bt_or {a b : Nat} : iI (a : Int) ||| iI (b : Int) = iI ((a ||| b : Nat) : Int) := by
  refine Int32.toBitVec.inj ?_
  rw [Int32.toBitVec_or, bt_n, bt_n, bt_n, BitVec.ofNat_or]
theorem bt_shl : ∀ i : Fin 12, iI 1 <<< (iI ((i.val : Nat) : Int) &&& 31) = iI ((2 ^ i.val : Nat) : Int) := by decide
theorem bt_shr {b i : Nat} (hb : b < 4096) (hi : i < 12) : iI (b : Int) >>> (iI (i : Int) &&& 31) = iI ((b >>> i : Nat) : Int) := by
  refine Int32.toBitVec.inj ?_
  rw [Int32.toBitVec_shiftRight, bt_n, bt_n, BitVec.sshiftRight_eq', bt_sm ⟨i, hi⟩, BitVec.sshiftRight_eq_of_msb_false]
  · apply BitVec.eq_of_toNat_eq
    rw [BitVec.toNat_ushiftRight, BitVec.toNat_ofNat, BitVec.toNat_ofNat, Nat.mod_eq_of_lt (by omega), Nat.mod_eq_of_lt]
    rw [Nat.shiftRight_eq_div_pow]
    exact Nat.lt_of_le_of_lt (Nat.div_le_self _ _) (by omega)
  · rw [BitVec.msb_eq_decide, BitVec.toNat_ofNat, Nat.mod_eq_of_lt (by omega)]
    exact decide_eq_false (by omega)
theorem bt_and {b : Nat} : iI (b : Int) &&& iI 1 = iI ((b % 2 : Nat) : Int) := by
  refine Int32.toBitVec.inj ?_
  rw [Int32.toBitVec_and, show iI 1 = iI ((1 : Nat) : Int) from rfl, bt_n, bt_n, bt_n, ← BitVec.ofNat_and, Nat.and_one_is_mod]
def hs (b : Nat) (z : Int) : Int := tf (b.testBit z.toNat = true)
theorem hs_b (b : Nat) (z : Int) : 0 ≤ hs b z ∧ hs b z ≤ 1 := by unfold hs tf; split <;> decide
theorem hs_1 {b : Nat} {z : Int} : hs b z = 1 ↔ b.testBit z.toNat = true := ⟨fun h => tf_1 (fun q => by rw [hs, q] at h; cases h), fun h => tf_t h⟩
theorem bt_has {b : Nat} {z : Int} (hb : b < 4096) (h0 : 0 ≤ z) (h1 : z < 12) : (iI (b : Int) >>> (iI z &&& 31)) &&& iI 1 = iI (hs b z) := by
  obtain ⟨i, rfl⟩ : ∃ i : Nat, z = (i : Int) := ⟨z.toNat, (Int.toNat_of_nonneg h0).symm⟩
  rw [bt_shr hb (by omega), bt_and]
  congr 1
  unfold hs tf
  rw [Int.toNat_natCast, Nat.testBit_eq_decide_div_mod_eq, ← Nat.shiftRight_eq_div_pow]
  by_cases h : b >>> i % 2 = 1
  · rw [h]; rfl
  · rw [if_neg (by rw [decide_eq_true_iff]; exact h), show b >>> i % 2 = 0 by omega]; rfl
theorem bt_bit {z : Int} (h0 : 0 ≤ z) (h1 : z < 12) : iI 1 <<< (iI z &&& 31) = iI ((2 ^ z.toNat : Nat) : Int) := by
  obtain ⟨i, rfl⟩ : ∃ i : Nat, z = (i : Int) := ⟨z.toNat, (Int.toNat_of_nonneg h0).symm⟩
  exact bt_shl ⟨i, by omega⟩
theorem hs_or {b : Nat} {k z : Int} (hk : 0 ≤ k) (hz : 0 ≤ z) : hs (b ||| 2 ^ k.toNat) z = 1 ↔ hs b z = 1 ∨ z = k := by
  rw [hs_1, hs_1, Nat.testBit_or, Nat.testBit_two_pow, Bool.or_eq_true, decide_eq_true_iff]
  constructor
  · rintro (h | h)
    · exact Or.inl h
    · exact Or.inr (by omega)
  · rintro (h | h)
    · exact Or.inl h
    · exact Or.inr (by omega)
theorem or_b {b : Nat} {k : Int} (hb : b < 4096) (h0 : 0 ≤ k) (h1 : k < 12) : b ≤ b ||| 2 ^ k.toNat ∧ b ||| 2 ^ k.toNat < 4096 :=
  ⟨Nat.left_le_or, Nat.or_lt_two_pow (n := 12) hb (Nat.pow_lt_pow_right (by decide) (by omega))⟩
theorem bit_b {k : Int} (h0 : 0 ≤ k) (h1 : k < 12) : 1 ≤ 2 ^ k.toNat ∧ 2 ^ k.toNat < 4096 := ⟨Nat.one_le_two_pow, Nat.pow_lt_pow_right (n := 12) (by decide) (by omega)⟩
theorem hs_bit {k z : Int} (h0 : 0 ≤ k) (hz : 0 ≤ z) : hs (2 ^ k.toNat) z = 1 ↔ z = k := by
  rw [hs_1, Nat.testBit_two_pow, decide_eq_true_iff]
  omega
theorem hs_0 {z : Int} : hs 0 z = 0 := by
  unfold hs
  rw [Nat.zero_testBit]
  rfl

/-- u reaches z by what it was made with -/
def cnd (T : St) (u : Int) : Prop := 0 < T 8 u ∧ T 9 u ≠ -1 ∧ T 8 (T 9 u) < T 8 u
def rcF (T : St) (z : Int) : Nat → Int → Int
  | 0, _ => 0
  | k + 1, u => if u = z then 1 else if 0 < T 8 u ∧ T 9 u ≠ -1 ∧ T 8 (T 9 u) < T 8 u then rcF T z k (T 9 u) else 0
def clo (n : Int) (T : St) (had b : Nat) (k : Int) : Prop := ∀ u, 0 ≤ u → u < k → cnd T u → hs had (T 9 u) = 1 → hs b u = 1
theorem rc_all {n : Int} {T : St} {z : Int} {b : Nat} (h9 : ∀ u, 0 ≤ u → u < n → T 9 u < n ∧ -1 ≤ T 9 u) (hz : hs b z = 1) (hc : clo n T b b n) : ∀ (f : Nat) (u : Int), 0 ≤ u → u < n → rcF T z f u = 1 → hs b u = 1
  | 0, _, _, _, h => by cases h
  | f + 1, u, h0, h1, h => by
    rw [rcF] at h
    by_cases c : u = z
    · rw [c]; exact hz
    · rw [if_neg c] at h
      by_cases d : 0 < T 8 u ∧ T 9 u ≠ -1 ∧ T 8 (T 9 u) < T 8 u
      · rw [if_pos d] at h
        have := h9 u h0 h1
        exact hc u h0 h1 d (rc_all h9 hz hc f (T 9 u) (by omega) this.1 h)
      · rw [if_neg d] at h; cases h
theorem rc_st {T : St} {z u : Int} (hc : cnd T u) (h : ∃ f, rcF T z f (T 9 u) = 1) : ∃ f, rcF T z f u = 1 := by
  obtain ⟨f, hf⟩ := h
  refine ⟨f + 1, ?_⟩
  rw [rcF]
  by_cases c : u = z
  · rw [if_pos c]
  · rw [if_neg c, if_pos (show 0 < T 8 u ∧ T 9 u ≠ -1 ∧ T 8 (T 9 u) < T 8 u from hc), hf]
def rq (T : St) (b : Nat) (k : Int) : Prop := hs b (T 19 k) = 1 ∧ T 8 (T 19 k) < T 20 k ∧ T 21 k = 0
abbrev rqI (T : St) (b : Nat) (k : Int) : Int := tf (hs b (T 19 k) = 1 ∧ T 8 (T 19 k) < T 20 k ∧ T 21 k = 0)
/-- the measurements below k called back -/
def rcC (T : St) (b : Nat) (mn k : Int) : St := fun g j => if g = 21 ∧ 0 ≤ j ∧ j < k ∧ rqI T b j = 1 then mn else T g j
theorem rcC_o {T : St} {b : Nat} {mn k : Int} {g : Nat} {j : Int} (h : g ≠ 21) : rcC T b mn k g j = T g j := by
  unfold rcC
  rw [if_neg (fun z => h z.1)]
theorem rcC_at {T : St} {b : Nat} {mn k : Int} : rcC T b mn k 21 k = T 21 k := by
  unfold rcC
  rw [if_neg (by omega)]
theorem rcC_0 {T : St} {b : Nat} {mn : Int} : rcC T b mn 0 = T := by
  funext g j
  unfold rcC
  rw [if_neg (by omega)]
theorem rcC_y {T : St} {b : Nat} {mn k : Int} (h0 : 0 ≤ k) (h : rqI T b k = 1) : up (rcC T b mn k) 21 k mn = rcC T b mn (k + 1) := by
  funext g j
  unfold up rcC
  by_cases hg : g = 21
  · subst hg
    by_cases hj : j = k
    · subst hj
      rw [if_pos rfl, if_pos rfl, if_pos ⟨rfl, h0, by omega, h⟩]
    · rw [if_pos rfl, if_neg hj]
      by_cases c : 0 ≤ j ∧ j < k ∧ rqI T b j = 1
      · rw [if_pos ⟨rfl, c⟩, if_pos ⟨rfl, c.1, by omega, c.2.2⟩]
      · rw [if_neg (fun z => c z.2), if_neg (fun z => c ⟨z.2.1, by omega, z.2.2.2⟩)]
  · rw [if_neg hg, if_neg (fun z => hg z.1), if_neg (fun z => hg z.1)]
theorem rcC_n {T : St} {b : Nat} {mn k : Int} (h : rqI T b k ≠ 1) : rcC T b mn k = rcC T b mn (k + 1) := by
  funext g j
  unfold rcC
  by_cases c : g = 21 ∧ 0 ≤ j ∧ j < k ∧ rqI T b j = 1
  · rw [if_pos c, if_pos ⟨c.1, c.2.1, by omega, c.2.2.2⟩]
  · rw [if_neg c, if_neg (fun z => c ⟨z.1, z.2.1, (by
      have : j ≠ k := fun q => h (q ▸ z.2.2.2)
      omega), z.2.2.2⟩)]
theorem rcC_f {T : St} {b : Nat} {k : Int} : rcC T b 0 k = T := by
  funext g j
  unfold rcC
  split
  · next h =>
    obtain ⟨rfl, -, -, h⟩ := h
    have := tf_1 (show rqI T b j ≠ 0 from h ▸ by decide)
    exact this.2.2.symm
  · rfl
/-- the suspects below k -/
def suC (T : St) (b : Nat) (z k : Int) : St := fun g j => if g = 13 ∧ 0 ≤ j ∧ j < k then tf (T 13 j ≠ 0 ∨ (hs b j = 1 ∧ j ≠ z)) else T g j
theorem suC_o {T : St} {b : Nat} {z k : Int} {g : Nat} {j : Int} (h : g ≠ 13) : suC T b z k g j = T g j := by
  unfold suC
  rw [if_neg (fun z => h z.1)]
theorem suC_at {T : St} {b : Nat} {z k : Int} : suC T b z k 13 k = T 13 k := by
  unfold suC
  rw [if_neg (by omega)]
theorem suC_0 {T : St} {b : Nat} {z : Int} : suC T b z 0 = T := by
  funext g j
  unfold suC
  rw [if_neg (by omega)]
theorem suC_s {T : St} {b : Nat} {z k v : Int} (h0 : 0 ≤ k) (hv : v = tf (T 13 k ≠ 0 ∨ (hs b k = 1 ∧ k ≠ z))) : up (suC T b z k) 13 k v = suC T b z (k + 1) := by
  funext g j
  unfold up suC
  by_cases hg : g = 13
  · subst hg
    by_cases hj : j = k
    · subst hj
      rw [if_pos rfl, if_pos rfl, if_pos ⟨rfl, h0, by omega⟩, hv]
    · rw [if_pos rfl, if_neg hj]
      by_cases c : 0 ≤ j ∧ j < k
      · rw [if_pos ⟨rfl, c⟩, if_pos ⟨rfl, c.1, by omega⟩]
      · rw [if_neg (fun z => c z.2), if_neg (fun z => c ⟨z.2.1, by omega⟩)]
  · rw [if_neg hg, if_neg (fun z => hg z.1), if_neg (fun z => hg z.1)]
theorem MI.cong {n nm : Int} {T T' : St} (hI : MI n nm T) (h : ∀ g, g ≠ 13 → g ≠ 14 → T' g = T g) (h13 : ∀ i, 0 ≤ i → i < n → 0 ≤ T' 13 i ∧ T' 13 i ≤ 1) (h14 : ∀ i, 0 ≤ i → i < n → 0 ≤ T' 14 i ∧ T' 14 i ≤ 512) : MI n nm T' := by
  obtain ⟨h1, h2, h3, h4, h5⟩ := hI
  refine ⟨?_, fun i a b => ?_, fun i j a b c d => ?_, fun k a b => ?_, fun i a b => ?_⟩
  · rw [h 2 (by decide) (by decide), h 18 (by decide) (by decide), h 1 (by decide) (by decide), h 3 (by decide) (by decide)]; exact h1
  · obtain ⟨g0, g1, g2, g3, g4, g5, g6, g7, g8, -, -, g11⟩ := h2 i a b
    unfold RT
    rw [h 4 (by decide) (by decide), h 5 (by decide) (by decide), h 6 (by decide) (by decide), h 7 (by decide) (by decide), h 8 (by decide) (by decide), h 9 (by decide) (by decide), h 10 (by decide) (by decide), h 11 (by decide) (by decide), h 12 (by decide) (by decide), h 15 (by decide) (by decide)]
    exact ⟨g0, g1, g2, g3, g4, g5, g6, g7, g8, h13 i a b, h14 i a b, g11⟩
  · rw [h 15 (by decide) (by decide)] at d
    have := h3 i j a b c d
    unfold RP at this ⊢
    rw [h 16 (by decide) (by decide), h 17 (by decide) (by decide)]
    exact this
  · have := h4 k a b
    unfold RU at this ⊢
    rw [h 19 (by decide) (by decide), h 20 (by decide) (by decide), h 21 (by decide) (by decide)]
    exact this
  · rw [h 4 (by decide) (by decide)]
    exact h5 i a b
/-- what a failure of z brings -/
def faM (T : St) (b : Nat) (z n nm : Int) : St := rcC (suC (up T 14 z (T 14 z + 1)) b z n) b 1 nm
def cnM (T : St) (b : Nat) (nm : Int) : Int := sm (rqI T b) nm.toNat
/-- the points below k moved by one -/
def shC (T : St) (a k : Int) : St := fun g j => if (g = 16 ∨ g = 17) ∧ a ≤ j ∧ j < k then T g (j + 1) else T g j
theorem shC_at {T : St} {a k : Int} {g : Nat} : shC T a k g (k + 1) = T g (k + 1) := by
  unfold shC
  rw [if_neg (by omega)]
theorem shC_o {T : St} {a k : Int} {g : Nat} {j : Int} (h : g ≠ 16 ∧ g ≠ 17) : shC T a k g j = T g j := by
  unfold shC
  rw [if_neg (by omega)]
theorem shC_0 {T : St} {a : Int} : shC T a a = T := by
  funext g j
  unfold shC
  rw [if_neg (by omega)]
theorem shC_s {T : St} {a k : Int} (h : a ≤ k) : up (up (shC T a k) 16 k (T 16 (k + 1))) 17 k (T 17 (k + 1)) = shC T a (k + 1) := by
  funext g j
  by_cases h17 : g = 17
  · subst h17
    by_cases hj : j = k
    · subst hj
      rw [up_s, shC, if_pos (by omega)]
    · rw [up_i hj, up_f (by decide)]
      unfold shC
      by_cases c : a ≤ j ∧ j < k
      · rw [if_pos ⟨Or.inr rfl, c⟩, if_pos ⟨Or.inr rfl, c.1, by omega⟩]
      · rw [if_neg (fun q => c q.2), if_neg (fun q => c ⟨q.2.1, by omega⟩)]
  · rw [up_f h17]
    by_cases h16 : g = 16
    · subst h16
      by_cases hj : j = k
      · subst hj
        rw [up_s, shC, if_pos (by omega)]
      · rw [up_i hj]
        unfold shC
        by_cases c : a ≤ j ∧ j < k
        · rw [if_pos ⟨Or.inl rfl, c⟩, if_pos ⟨Or.inl rfl, c.1, by omega⟩]
        · rw [if_neg (fun q => c q.2), if_neg (fun q => c ⟨q.2.1, by omega⟩)]
    · rw [up_f h16, shC_o ⟨h16, h17⟩, shC_o ⟨h16, h17⟩]
def lpA (T : St) (z : Int) : St := if T 15 z = 8 then up (shC T (8 * z) (8 * z + 7)) 15 z 7 else T
def lpS (T : St) (z d e : Int) : St := up (up (up (lpA T z) 16 (8 * z + lpA T z 15 z) d) 17 (8 * z + lpA T z 15 z) e) 15 z (lpA T z 15 z + 1)
set_option maxRecDepth 100000 in
set_option maxHeartbeats 4000000 in
theorem c_X4_reached {l : Launch} (hlt : l.stackTraces = false) {D : va_G} {ca : Nat → ClassId} {base : Nat} {am : Nat → Nat} {th : Int} {n nm : Int} {T : St} {w : Wd} (hM : MW base ca am th T w) (hI : MI n nm T) (z : Int) (hz : 0 ≤ z ∧ z < n) : CT l D ca base yX4_reached cX4_reached 7 (some .int) 1 0 0 [.ref (am 0), .int (iI (z))] w (fun v w' => (∃ b : Nat, v = some (.int (iI ((b : Nat) : Int))) ∧ b < 4096 ∧ (∀ u, 0 ≤ u → u < n → (hs b u = 1 ↔ ∃ f, rcF T z f u = 1))) ∧ w = w') (fun _ _ => False) := by
  obtain ⟨hn, hnm, e2, e18, h1t, h3t⟩ := hI.top
  refine CT.mk hlt (by decide +kernel) (by first | exact Nat.le_of_ble_eq_true rfl | simp [lg_sl, cat_rf, cat_i, cat_l, cat_r]) ?_
  intro p e s m args below meth c X htab
  rw [show lv_args 0 [.ref (am 0), .int (iI (z))] = [(0, .ref (am 0)), (1, .int (iI (z)))] from by first | rfl | simp [lv_args, cat_rf, cat_i, cat_l, cat_r]]
  refine j_iconst X (a := 1) dX4_reached_0 (q := 1) rfl ?_
  refine j_iload_n X dX4_reached_1 (q := 2) rfl 1 rfl ?_
  refine j_ishl X (bt_bit (z := z) hz.1 (by omega)) dX4_reached_2 (q := 3) rfl ?_
  refine j_istore_n X (i := 2) dX4_reached_3 rfl (by decide) (q := 4) rfl (lv' := [(2, .int (iI (((2 ^ (z).toNat : Nat) : Int)))), (0, .ref (am 0)), (1, .int (iI (z)))]) (by first | rfl | simp [cat_rf, cat_i, cat_l, cat_r]) ?_
  refine j_iconst X (a := 0) dX4_reached_4 (q := 5) rfl ?_
  refine j_istore_n X (i := 3) dX4_reached_5 rfl (by decide) (q := 6) rfl (lv' := [(3, .int (iI (0))), (2, .int (iI (((2 ^ (z).toNat : Nat) : Int)))), (0, .ref (am 0)), (1, .int (iI (z)))]) (by first | rfl | simp [cat_rf, cat_i, cat_l, cat_r]) ?_
  have hbz := bit_b hz.1 (show z < 12 by omega)
  have h9 : ∀ u, 0 ≤ u → u < n → T 9 u < n ∧ -1 ≤ T 9 u := fun u a b => ⟨(hI.ins a b).2.2.2.2.2.1.2, (hI.ins a b).2.2.2.2.2.1.1⟩
  have loop : ∀ (kk : Nat) (had b : Nat), had ≤ b → b < 4096 → 4096 - had = kk → hs b z = 1 → (∀ u, 0 ≤ u → u < n → hs b u = 1 → ∃ f, rcF T z f u = 1) → clo n T had b n → J p l e (Rm 1 0 0) s m args below meth c (vx_MQ below (Qn D base (fun v w' => (∃ b : Nat, v = some (.int (iI ((b : Nat) : Int))) ∧ b < 4096 ∧ (∀ u, 0 ≤ u → u < n → (hs b u = 1 ↔ ∃ f, rcF T z f u = 1))) ∧ w = w')) (Xn D base (fun _ _ => False)) args s 0 0 (fun q => base ≤ q)) D base 7 0 0 6 [(0, .ref (am 0)), (1, .int (iI (z))), (2, .int (iI (((b : Nat) : Int)))), (3, .int (iI (((had : Nat) : Int))))] [] w := by
    intro kk
    induction kk using Nat.strongRecOn with
    | ind kk ih =>
      intro had b hle hlt9 hkk hzz hso hcl
      have ihB := ih
      refine j_iload_n X dX4_reached_6 (q := 7) rfl 3 rfl ?_
      refine j_iload_n X dX4_reached_7 (q := 8) rfl 2 rfl ?_
      refine j_icmp_eq X (tgt := 108) dX4_reached_8 (by decide) (q := 11) rfl (by omega) (by omega) (fun c_8 => ?_) (fun c_8 => ?_)
      · skip
        refine j_iload_n X dX4_reached_108 (q := 109) rfl 2 rfl ?_
        exact j_iret X rfl dX4_reached_109 (⟨⟨b, rfl, by omega, fun u u0 u1 => ⟨fun q => hso u u0 u1 q, fun ⟨f, hf⟩ => rc_all h9 hzz (by rw [show had = b by omega] at hcl; exact hcl) f u u0 u1 hf⟩⟩, rfl⟩) (by decide) (by decide)
      · skip
        refine j_iload_n X dX4_reached_11 (q := 12) rfl 2 rfl ?_
        refine j_istore_n X (i := 3) dX4_reached_12 rfl (by decide) (q := 13) rfl (lv' := [(3, .int (iI (((b : Nat) : Int)))), (0, .ref (am 0)), (1, .int (iI (z))), (2, .int (iI (((b : Nat) : Int))))]) (by first | rfl | simp [cat_rf, cat_i, cat_l, cat_r]) ?_
        refine j_iconst X (a := 0) dX4_reached_13 (q := 14) rfl ?_
        refine j_istore X (i := 4) dX4_reached_14 (by decide) (q := 16) rfl (lv' := [(4, .int (iI (0))), (3, .int (iI (((b : Nat) : Int)))), (0, .ref (am 0)), (1, .int (iI (z))), (2, .int (iI (((b : Nat) : Int))))]) (by first | rfl | simp [cat_rf, cat_i, cat_l, cat_r]) ?_
        have loop : ∀ (kk : Nat) (b2 : Nat) (k : Int), (0 ≤ k ∧ k ≤ n) → b ≤ b2 → b2 < 4096 → (n - k).toNat = kk → hs b2 z = 1 → (∀ u, 0 ≤ u → u < n → hs b2 u = 1 → ∃ f, rcF T z f u = 1) → clo n T b b2 k → J p l e (Rm 1 0 0) s m args below meth c (vx_MQ below (Qn D base (fun v w' => (∃ b : Nat, v = some (.int (iI ((b : Nat) : Int))) ∧ b < 4096 ∧ (∀ u, 0 ≤ u → u < n → (hs b u = 1 ↔ ∃ f, rcF T z f u = 1))) ∧ w = w')) (Xn D base (fun _ _ => False)) args s 0 0 (fun q => base ≤ q)) D base 7 0 0 16 [(0, .ref (am 0)), (1, .int (iI (z))), (2, .int (iI (((b2 : Nat) : Int)))), (3, .int (iI (((b : Nat) : Int)))), (4, .int (iI (k)))] [] w := by
          intro kk
          induction kk using Nat.strongRecOn with
          | ind kk ih =>
            intro b2 k hk hle2 hb2 hkk2 hzz2 hso2 hcl2
            refine j_iload X dX4_reached_16 (q := 18) rfl 4 rfl ?_
            refine j_aload_n X dX4_reached_18 (q := 19) rfl 0 rfl ?_
            refine j_get X (v := .int (iI (T 2 0))) fl_X4_66 hM.obj rfl dX4_reached_19 (q := 22) rfl ?_
            refine j_icmp_ge X (tgt := 105) dX4_reached_22 (by decide) (q := 25) rfl (by omega) (by omega) (fun c_22 => ?_) (fun c_22 => ?_)
            · skip
              refine j_goto X (tgt := 6) dX4_reached_105 (by decide) ?_
              exact j_lv (ihB (4096 - b) (by omega) b b2 (by omega) (by omega) rfl hzz2 hso2 (by rw [show n = k by omega]; exact hcl2)) [0, 1, 2, 3] rfl
            · skip
              obtain ⟨t_1_0, t_1_1, t_1_2, t_1_3, t_1_4, t_1_5, t_1_6, t_1_7, t_1_8, t_1_9, t_1_10, t_1_11⟩ := hI.ins (i := k) hk.1 (by omega)
              refine j_aload_n X dX4_reached_25 (q := 26) rfl 0 rfl ?_
              refine j_get X (v := .ref (am 9)) fl_X4_25 hM.obj rfl dX4_reached_26 (q := 29) rfl ?_
              refine j_iload X dX4_reached_29 (q := 31) rfl 4 rfl ?_
              refine jm_iald X hM 9 (by decide) rfl (by omega) (by show _ < (12 : Int); omega) dX4_reached_31 (q := 32) rfl ?_
              refine j_istore X (i := 5) dX4_reached_32 (by decide) (q := 34) rfl (lv' := [(5, .int (iI (T 9 k))), (0, .ref (am 0)), (1, .int (iI (z))), (2, .int (iI (((b2 : Nat) : Int)))), (3, .int (iI (((b : Nat) : Int)))), (4, .int (iI (k)))]) (by first | rfl | simp [cat_rf, cat_i, cat_l, cat_r]) ?_
              refine j_aload_n X dX4_reached_34 (q := 35) rfl 1 rfl ?_
              refine j_iload X dX4_reached_35 (q := 37) rfl 5 rfl ?_
              refine j_callV X (As := [.int (iI (k))]) (st := []) hM.obj rfl (c_X4_isCalibrated hlt hM hI k ⟨hk.1, by omega⟩) sv_X4_83 (by decide) rfl (by first | decide | exact Nat.le_of_ble_eq_true rfl | simp [cat_rf, cat_i, cat_l, cat_r]) dX4_reached_37 (by decide) (fun _ _ h => h.elim) ?_
              rintro v9 w9 ⟨rfl, rfl⟩
              refine j_st (st := [.int (iI (tf (0 < T 8 k)))]) ?_
              have hb8 := tf_b (0 < T 8 k)
              refine j_if_eq X (tgt := 80) dX4_reached_40 (by decide) (q := 43) rfl (by omega) (fun c_40 => ?_) (fun c_40 => ?_)
              · skip
                have k40 := tf_0 c_40
                refine j_iconst X (a := 0) dX4_reached_80 (q := 81) rfl ?_
                refine j_istore X (i := 6) dX4_reached_81 (by decide) (q := 83) rfl (lv' := [(6, .int (iI (0))), (5, .int (iI (T 9 k))), (0, .ref (am 0)), (1, .int (iI (z))), (2, .int (iI (((b2 : Nat) : Int)))), (3, .int (iI (((b : Nat) : Int)))), (4, .int (iI (k)))]) (by first | rfl | simp [cat_rf, cat_i, cat_l, cat_r]) ?_
                refine j_iload_n X dX4_reached_83 (q := 84) rfl 4 rfl ?_
                refine j_iload X dX4_reached_84 (q := 86) rfl 0 rfl ?_
                refine j_if_eq X (tgt := 96) dX4_reached_86 (by decide) (q := 89) rfl (by omega) (fun c_86 => ?_) (fun c_86 => ?_)
                · skip
                  refine j_iconst X (a := 0) dX4_reached_96 (q := 97) rfl ?_
                  refine j_ior X (v := iI (((b2 : Nat)) : Int)) ((bt_or (a := b2) (b := 0)).trans (by rw [Nat.or_zero])) dX4_reached_97 (q := 98) rfl ?_
                  refine j_istore_n X (i := 2) dX4_reached_98 rfl (by decide) (q := 99) rfl (lv' := [(2, .int (iI ((((b2 : Nat)) : Int)))), (6, .int (iI (0))), (5, .int (iI (T 9 k))), (0, .ref (am 0)), (1, .int (iI (z))), (3, .int (iI (((b : Nat) : Int)))), (4, .int (iI (k)))]) (by first | rfl | simp [cat_rf, cat_i, cat_l, cat_r]) ?_
                  refine j_iinc X dX4_reached_99 6 rfl (by decide) (q := 102) rfl (lv' := [(4, .int (iI (k + 1))), (2, .int (iI ((((b2 : Nat)) : Int)))), (6, .int (iI (0))), (5, .int (iI (T 9 k))), (0, .ref (am 0)), (1, .int (iI (z))), (3, .int (iI (((b : Nat) : Int))))]) (by first | rfl | simp [cat_rf, cat_i, cat_l, cat_r]) ?_
                  refine j_goto X (tgt := 16) dX4_reached_102 (by decide) ?_
                  exact j_lv (ih (n - (k + 1)).toNat (by omega) b2 (k + 1) (by omega) hle2 hb2 rfl hzz2 hso2 (fun u u0 u1 c q => by by_cases hq : u = k; exact absurd hq (fun hq => by rw [hq] at c q; exact k40 c.1); exact hcl2 u u0 (by omega) c q)) [4, 5, 1, 6, 0] rfl
                · skip
                  exact absurd c_86 (by decide)
              · skip
                have k40 := tf_1 c_40
                refine j_iload X dX4_reached_43 (q := 45) rfl 0 rfl ?_
                refine j_iconst X (a := -1) dX4_reached_45 (q := 46) rfl ?_
                refine j_icmp_eq X (tgt := 80) dX4_reached_46 (by decide) (q := 49) rfl (by omega) (by omega) (fun c_46 => ?_) (fun c_46 => ?_)
                · skip
                  refine j_iconst X (a := 0) dX4_reached_80 (q := 81) rfl ?_
                  refine j_istore X (i := 6) dX4_reached_81 (by decide) (q := 83) rfl (lv' := [(6, .int (iI (0))), (5, .int (iI (T 9 k))), (0, .ref (am 0)), (1, .int (iI (z))), (2, .int (iI (((b2 : Nat) : Int)))), (3, .int (iI (((b : Nat) : Int)))), (4, .int (iI (k)))]) (by first | rfl | simp [cat_rf, cat_i, cat_l, cat_r]) ?_
                  refine j_iload_n X dX4_reached_83 (q := 84) rfl 4 rfl ?_
                  refine j_iload X dX4_reached_84 (q := 86) rfl 0 rfl ?_
                  refine j_if_eq X (tgt := 96) dX4_reached_86 (by decide) (q := 89) rfl (by omega) (fun c_86 => ?_) (fun c_86 => ?_)
                  · skip
                    refine j_iconst X (a := 0) dX4_reached_96 (q := 97) rfl ?_
                    refine j_ior X (v := iI (((b2 : Nat)) : Int)) ((bt_or (a := b2) (b := 0)).trans (by rw [Nat.or_zero])) dX4_reached_97 (q := 98) rfl ?_
                    refine j_istore_n X (i := 2) dX4_reached_98 rfl (by decide) (q := 99) rfl (lv' := [(2, .int (iI ((((b2 : Nat)) : Int)))), (6, .int (iI (0))), (5, .int (iI (T 9 k))), (0, .ref (am 0)), (1, .int (iI (z))), (3, .int (iI (((b : Nat) : Int)))), (4, .int (iI (k)))]) (by first | rfl | simp [cat_rf, cat_i, cat_l, cat_r]) ?_
                    refine j_iinc X dX4_reached_99 6 rfl (by decide) (q := 102) rfl (lv' := [(4, .int (iI (k + 1))), (2, .int (iI ((((b2 : Nat)) : Int)))), (6, .int (iI (0))), (5, .int (iI (T 9 k))), (0, .ref (am 0)), (1, .int (iI (z))), (3, .int (iI (((b : Nat) : Int))))]) (by first | rfl | simp [cat_rf, cat_i, cat_l, cat_r]) ?_
                    refine j_goto X (tgt := 16) dX4_reached_102 (by decide) ?_
                    exact j_lv (ih (n - (k + 1)).toNat (by omega) b2 (k + 1) (by omega) hle2 hb2 rfl hzz2 hso2 (fun u u0 u1 c q => by by_cases hq : u = k; exact absurd hq (fun hq => by rw [hq] at c q; exact c.2.1 c_46); exact hcl2 u u0 (by omega) c q)) [4, 5, 1, 6, 0] rfl
                  · skip
                    exact absurd c_86 (by decide)
                · skip
                  refine j_iload_n X dX4_reached_49 (q := 50) rfl 4 rfl ?_
                  refine j_iload X dX4_reached_50 (q := 52) rfl 0 rfl ?_
                  refine j_ishr X rfl dX4_reached_52 (q := 53) rfl ?_
                  refine j_iconst X (a := 1) dX4_reached_53 (q := 54) rfl ?_
                  refine j_iand X (bt_has (b := b) (z := T 9 k) hlt9 (by omega) (by omega)) dX4_reached_54 (q := 55) rfl ?_
                  have hbs := hs_b b (T 9 k)
                  refine j_iconst X (a := 1) dX4_reached_55 (q := 56) rfl ?_
                  refine j_icmp_ne X (tgt := 80) dX4_reached_56 (by decide) (q := 59) rfl (by omega) (by omega) (fun c_56 => ?_) (fun c_56 => ?_)
                  · skip
                    refine j_iconst X (a := 0) dX4_reached_80 (q := 81) rfl ?_
                    refine j_istore X (i := 6) dX4_reached_81 (by decide) (q := 83) rfl (lv' := [(6, .int (iI (0))), (5, .int (iI (T 9 k))), (0, .ref (am 0)), (1, .int (iI (z))), (2, .int (iI (((b2 : Nat) : Int)))), (3, .int (iI (((b : Nat) : Int)))), (4, .int (iI (k)))]) (by first | rfl | simp [cat_rf, cat_i, cat_l, cat_r]) ?_
                    refine j_iload_n X dX4_reached_83 (q := 84) rfl 4 rfl ?_
                    refine j_iload X dX4_reached_84 (q := 86) rfl 0 rfl ?_
                    refine j_if_eq X (tgt := 96) dX4_reached_86 (by decide) (q := 89) rfl (by omega) (fun c_86 => ?_) (fun c_86 => ?_)
                    · skip
                      refine j_iconst X (a := 0) dX4_reached_96 (q := 97) rfl ?_
                      refine j_ior X (v := iI (((b2 : Nat)) : Int)) ((bt_or (a := b2) (b := 0)).trans (by rw [Nat.or_zero])) dX4_reached_97 (q := 98) rfl ?_
                      refine j_istore_n X (i := 2) dX4_reached_98 rfl (by decide) (q := 99) rfl (lv' := [(2, .int (iI ((((b2 : Nat)) : Int)))), (6, .int (iI (0))), (5, .int (iI (T 9 k))), (0, .ref (am 0)), (1, .int (iI (z))), (3, .int (iI (((b : Nat) : Int)))), (4, .int (iI (k)))]) (by first | rfl | simp [cat_rf, cat_i, cat_l, cat_r]) ?_
                      refine j_iinc X dX4_reached_99 6 rfl (by decide) (q := 102) rfl (lv' := [(4, .int (iI (k + 1))), (2, .int (iI ((((b2 : Nat)) : Int)))), (6, .int (iI (0))), (5, .int (iI (T 9 k))), (0, .ref (am 0)), (1, .int (iI (z))), (3, .int (iI (((b : Nat) : Int))))]) (by first | rfl | simp [cat_rf, cat_i, cat_l, cat_r]) ?_
                      refine j_goto X (tgt := 16) dX4_reached_102 (by decide) ?_
                      exact j_lv (ih (n - (k + 1)).toNat (by omega) b2 (k + 1) (by omega) hle2 hb2 rfl hzz2 hso2 (fun u u0 u1 c q => by by_cases hq : u = k; exact absurd hq (fun hq => by rw [hq] at c q; exact c_56 q); exact hcl2 u u0 (by omega) c q)) [4, 5, 1, 6, 0] rfl
                    · skip
                      exact absurd c_86 (by decide)
                  · skip
                    obtain ⟨t_2_0, t_2_1, t_2_2, t_2_3, t_2_4, t_2_5, t_2_6, t_2_7, t_2_8, t_2_9, t_2_10, t_2_11⟩ := hI.ins (i := T 9 k) (by omega) (by omega)
                    refine j_aload_n X dX4_reached_59 (q := 60) rfl 1 rfl ?_
                    refine j_get X (v := .ref (am 8)) fl_X4_22 hM.obj rfl dX4_reached_60 (q := 63) rfl ?_
                    refine j_iload X dX4_reached_63 (q := 65) rfl 5 rfl ?_
                    refine jm_iald X hM 8 (by decide) rfl (by omega) (by show _ < (12 : Int); omega) dX4_reached_65 (q := 66) rfl ?_
                    refine j_aload_n X dX4_reached_66 (q := 67) rfl 1 rfl ?_
                    refine j_get X (v := .ref (am 8)) fl_X4_22 hM.obj rfl dX4_reached_67 (q := 70) rfl ?_
                    refine j_iload X dX4_reached_70 (q := 72) rfl 0 rfl ?_
                    refine jm_iald X hM 8 (by decide) rfl (by omega) (by show _ < (12 : Int); omega) dX4_reached_72 (q := 73) rfl ?_
                    refine j_icmp_le X (tgt := 80) dX4_reached_73 (by decide) (q := 76) rfl (by omega) (by omega) (fun c_73 => ?_) (fun c_73 => ?_)
                    · skip
                      refine j_iconst X (a := 0) dX4_reached_80 (q := 81) rfl ?_
                      refine j_istore X (i := 6) dX4_reached_81 (by decide) (q := 83) rfl (lv' := [(6, .int (iI (0))), (5, .int (iI (T 9 k))), (0, .ref (am 0)), (1, .int (iI (z))), (2, .int (iI (((b2 : Nat) : Int)))), (3, .int (iI (((b : Nat) : Int)))), (4, .int (iI (k)))]) (by first | rfl | simp [cat_rf, cat_i, cat_l, cat_r]) ?_
                      refine j_iload_n X dX4_reached_83 (q := 84) rfl 4 rfl ?_
                      refine j_iload X dX4_reached_84 (q := 86) rfl 0 rfl ?_
                      refine j_if_eq X (tgt := 96) dX4_reached_86 (by decide) (q := 89) rfl (by omega) (fun c_86 => ?_) (fun c_86 => ?_)
                      · skip
                        refine j_iconst X (a := 0) dX4_reached_96 (q := 97) rfl ?_
                        refine j_ior X (v := iI (((b2 : Nat)) : Int)) ((bt_or (a := b2) (b := 0)).trans (by rw [Nat.or_zero])) dX4_reached_97 (q := 98) rfl ?_
                        refine j_istore_n X (i := 2) dX4_reached_98 rfl (by decide) (q := 99) rfl (lv' := [(2, .int (iI ((((b2 : Nat)) : Int)))), (6, .int (iI (0))), (5, .int (iI (T 9 k))), (0, .ref (am 0)), (1, .int (iI (z))), (3, .int (iI (((b : Nat) : Int)))), (4, .int (iI (k)))]) (by first | rfl | simp [cat_rf, cat_i, cat_l, cat_r]) ?_
                        refine j_iinc X dX4_reached_99 6 rfl (by decide) (q := 102) rfl (lv' := [(4, .int (iI (k + 1))), (2, .int (iI ((((b2 : Nat)) : Int)))), (6, .int (iI (0))), (5, .int (iI (T 9 k))), (0, .ref (am 0)), (1, .int (iI (z))), (3, .int (iI (((b : Nat) : Int))))]) (by first | rfl | simp [cat_rf, cat_i, cat_l, cat_r]) ?_
                        refine j_goto X (tgt := 16) dX4_reached_102 (by decide) ?_
                        exact j_lv (ih (n - (k + 1)).toNat (by omega) b2 (k + 1) (by omega) hle2 hb2 rfl hzz2 hso2 (fun u u0 u1 c q => by by_cases hq : u = k; exact absurd hq (fun hq => by rw [hq] at c q; have := c.2.2; omega); exact hcl2 u u0 (by omega) c q)) [4, 5, 1, 6, 0] rfl
                      · skip
                        exact absurd c_86 (by decide)
                    · skip
                      refine j_iconst X (a := 1) dX4_reached_76 (q := 77) rfl ?_
                      refine j_goto X (tgt := 81) dX4_reached_77 (by decide) ?_
                      refine j_istore X (i := 6) dX4_reached_81 (by decide) (q := 83) rfl (lv' := [(6, .int (iI (1))), (5, .int (iI (T 9 k))), (0, .ref (am 0)), (1, .int (iI (z))), (2, .int (iI (((b2 : Nat) : Int)))), (3, .int (iI (((b : Nat) : Int)))), (4, .int (iI (k)))]) (by first | rfl | simp [cat_rf, cat_i, cat_l, cat_r]) ?_
                      refine j_iload_n X dX4_reached_83 (q := 84) rfl 4 rfl ?_
                      refine j_iload X dX4_reached_84 (q := 86) rfl 0 rfl ?_
                      refine j_if_eq X (tgt := 96) dX4_reached_86 (by decide) (q := 89) rfl (by omega) (fun c_86 => ?_) (fun c_86 => ?_)
                      · skip
                        exact absurd c_86 (by decide)
                      · skip
                        refine j_iconst X (a := 1) dX4_reached_89 (q := 90) rfl ?_
                        refine j_iload X dX4_reached_90 (q := 92) rfl 6 rfl ?_
                        refine j_ishl X (bt_bit (z := k) hk.1 (by omega)) dX4_reached_92 (q := 93) rfl ?_
                        refine j_goto X (tgt := 97) dX4_reached_93 (by decide) ?_
                        refine j_ior X (v := iI (((b2 ||| 2 ^ k.toNat : Nat)) : Int)) (bt_or) dX4_reached_97 (q := 98) rfl ?_
                        refine j_istore_n X (i := 2) dX4_reached_98 rfl (by decide) (q := 99) rfl (lv' := [(2, .int (iI ((((b2 ||| 2 ^ k.toNat : Nat)) : Int)))), (6, .int (iI (1))), (5, .int (iI (T 9 k))), (0, .ref (am 0)), (1, .int (iI (z))), (3, .int (iI (((b : Nat) : Int)))), (4, .int (iI (k)))]) (by first | rfl | simp [cat_rf, cat_i, cat_l, cat_r]) ?_
                        refine j_iinc X dX4_reached_99 6 rfl (by decide) (q := 102) rfl (lv' := [(4, .int (iI (k + 1))), (2, .int (iI ((((b2 ||| 2 ^ k.toNat : Nat)) : Int)))), (6, .int (iI (1))), (5, .int (iI (T 9 k))), (0, .ref (am 0)), (1, .int (iI (z))), (3, .int (iI (((b : Nat) : Int))))]) (by first | rfl | simp [cat_rf, cat_i, cat_l, cat_r]) ?_
                        refine j_goto X (tgt := 16) dX4_reached_102 (by decide) ?_
                        have hob := or_b hb2 hk.1 (show k < 12 by omega)
                        have hcd : cnd T k := ⟨k40, c_46, by omega⟩
                        exact j_lv (ih (n - (k + 1)).toNat (by omega) (b2 ||| 2 ^ k.toNat) (k + 1) (by omega) (by omega) hob.2 rfl ((hs_or hk.1 hz.1).mpr (Or.inl hzz2)) (fun u u0 u1 q => ((hs_or hk.1 u0).mp q).elim (hso2 u u0 u1) (fun q => q ▸ rc_st hcd (hso (T 9 k) (by omega) (by omega) c_56))) (fun u u0 u1 c q => (hs_or hk.1 u0).mpr (by by_cases hq : u = k; exact Or.inr hq; exact Or.inl (hcl2 u u0 (by omega) c q)))) [4, 5, 1, 6, 0] rfl
        exact j_lv (loop _ b 0 (by omega) (Nat.le_refl _) hlt9 rfl hzz hso (fun u u0 u1 => absurd u1 (by omega))) [2, 3, 4, 1, 0] rfl
  exact j_lv (loop _ 0 _ (by omega) hbz.2 rfl ((hs_bit hz.1 hz.1).mpr rfl) (fun u u0 u1 q => ⟨1, by rw [rcF, if_pos ((hs_bit hz.1 u0).mp q)]⟩) (fun u _ _ _ q => by rw [hs_0] at q; cases q)) [2, 3, 1, 0] rfl

set_option maxRecDepth 100000 in
set_option maxHeartbeats 4000000 in
theorem c_X4_recalls {l : Launch} (hlt : l.stackTraces = false) {D : va_G} {ca : Nat → ClassId} {base : Nat} {am : Nat → Nat} {th : Int} {n nm : Int} {T : St} {w : Wd} (hM : MW base ca am th T w) (hI : MI n nm T) (b : Nat) (hb : b < 4096) (mn : Int) (hmn : 0 ≤ mn ∧ mn ≤ 1) : CT l D ca base yX4_recalls cX4_recalls 6 (some .int) 0 0 0 [.ref (am 0), .int (iI (((b : Nat) : Int))), .int (iI (mn))] w (fun v w' => v = some (.int (iI (cnM T b nm))) ∧ MW base ca am th (rcC T b mn nm) w' ∧ Fr 1 w w') (fun _ _ => False) := by
  obtain ⟨hn, hnm, e2, e18, h1t, h3t⟩ := hI.top
  refine CT.mk hlt (by decide +kernel) (by first | exact Nat.le_of_ble_eq_true rfl | simp [lg_sl, cat_rf, cat_i, cat_l, cat_r]) ?_
  intro p e s m args below meth c X htab
  rw [show lv_args 0 [.ref (am 0), .int (iI (((b : Nat) : Int))), .int (iI (mn))] = [(0, .ref (am 0)), (1, .int (iI (((b : Nat) : Int)))), (2, .int (iI (mn)))] from by first | rfl | simp [lv_args, cat_rf, cat_i, cat_l, cat_r]]
  refine j_iconst X (a := 0) dX4_recalls_0 (q := 1) rfl ?_
  refine j_istore_n X (i := 3) dX4_recalls_1 rfl (by decide) (q := 2) rfl (lv' := [(3, .int (iI (0))), (0, .ref (am 0)), (1, .int (iI (((b : Nat) : Int)))), (2, .int (iI (mn)))]) (by first | rfl | simp [cat_rf, cat_i, cat_l, cat_r]) ?_
  refine j_iconst X (a := 0) dX4_recalls_2 (q := 3) rfl ?_
  refine j_istore X (i := 4) dX4_recalls_3 (by decide) (q := 5) rfl (lv' := [(4, .int (iI (0))), (3, .int (iI (0))), (0, .ref (am 0)), (1, .int (iI (((b : Nat) : Int)))), (2, .int (iI (mn)))]) (by first | rfl | simp [cat_rf, cat_i, cat_l, cat_r]) ?_
  have loop : ∀ (kk : Nat) (k acc : Int) (w1 : Wd), (0 ≤ k ∧ k ≤ nm) → (0 ≤ acc ∧ acc ≤ k) → (nm - k).toNat = kk → acc = sm (rqI T b) k.toNat → MW base ca am th (rcC T b mn k) w1 → Fr 1 w w1 → J p l e (Rm 0 0 0) s m args below meth c (vx_MQ below (Qn D base (fun v w' => v = some (.int (iI (cnM T b nm))) ∧ MW base ca am th (rcC T b mn nm) w' ∧ Fr 1 w w')) (Xn D base (fun _ _ => False)) args s 0 0 (fun q => base ≤ q)) D base 6 0 0 5 [(0, .ref (am 0)), (1, .int (iI (((b : Nat) : Int)))), (2, .int (iI (mn))), (3, .int (iI (acc))), (4, .int (iI (k)))] [] w1 := by
    intro kk
    induction kk using Nat.strongRecOn with
    | ind kk ih =>
      intro k acc w1 hk hac hkk hv hM1 hF1
      refine j_iload X dX4_recalls_5 (q := 7) rfl 4 rfl ?_
      refine j_aload_n X dX4_recalls_7 (q := 8) rfl 0 rfl ?_
      refine j_get X (v := .int (iI (T 18 0))) fl_X4_89 hM1.obj (by show some (Value.int (iI (rcC T b mn k 18 0))) = _; rw [rcC_o (by decide)]) dX4_recalls_8 (q := 11) rfl ?_
      refine j_icmp_ge X (tgt := 77) dX4_recalls_11 (by decide) (q := 14) rfl (by omega) (by omega) (fun c_11 => ?_) (fun c_11 => ?_)
      · skip
        refine j_iload_n X dX4_recalls_77 (q := 78) rfl 3 rfl ?_
        exact j_iret X rfl dX4_recalls_78 (⟨by rw [hv, show k = nm by omega]; rfl, by rw [show nm = k by omega]; exact hM1, hF1⟩) (by decide) (by decide)
      · skip
        obtain ⟨hu1, hu2, hu3⟩ := hI.mea (k := k) hk.1 (by omega)
        obtain ⟨t_3_0, t_3_1, t_3_2, t_3_3, t_3_4, t_3_5, t_3_6, t_3_7, t_3_8, t_3_9, t_3_10, t_3_11⟩ := hI.ins (i := T 19 k) hu1.1 hu1.2
        refine j_aload_n X dX4_recalls_14 (q := 15) rfl 0 rfl ?_
        refine j_get X (v := .ref (am 19)) fl_X4_53 hM1.obj rfl dX4_recalls_15 (q := 18) rfl ?_
        refine j_iload X dX4_recalls_18 (q := 20) rfl 4 rfl ?_
        refine jm_iald X hM1 19 (by decide) rfl (by omega) (by show _ < (200 : Int); omega) dX4_recalls_20 (q := 21) rfl ?_
        rw [rcC_o (by decide)]
        refine j_istore X (i := 5) dX4_recalls_21 (by decide) (q := 23) rfl (lv' := [(5, .int (iI (T 19 k))), (0, .ref (am 0)), (1, .int (iI (((b : Nat) : Int)))), (2, .int (iI (mn))), (3, .int (iI (acc))), (4, .int (iI (k)))]) (by first | rfl | simp [cat_rf, cat_i, cat_l, cat_r]) ?_
        refine j_iload_n X dX4_recalls_23 (q := 24) rfl 2 rfl ?_
        refine j_iload X dX4_recalls_24 (q := 26) rfl 0 rfl ?_
        refine j_ishr X rfl dX4_recalls_26 (q := 27) rfl ?_
        refine j_iconst X (a := 1) dX4_recalls_27 (q := 28) rfl ?_
        refine j_iand X (bt_has (b := b) (z := T 19 k) hb (by omega) (by omega)) dX4_recalls_28 (q := 29) rfl ?_
        have hbs := hs_b b (T 19 k)
        refine j_iconst X (a := 1) dX4_recalls_29 (q := 30) rfl ?_
        refine j_icmp_ne X (tgt := 71) dX4_recalls_30 (by decide) (q := 33) rfl (by omega) (by omega) (fun c_30 => ?_) (fun c_30 => ?_)
        · skip
          refine j_iinc X dX4_recalls_71 5 rfl (by decide) (q := 74) rfl (lv' := [(4, .int (iI (k + 1))), (5, .int (iI (T 19 k))), (0, .ref (am 0)), (1, .int (iI (((b : Nat) : Int)))), (2, .int (iI (mn))), (3, .int (iI (acc)))]) (by first | rfl | simp [cat_rf, cat_i, cat_l, cat_r]) ?_
          refine j_goto X (tgt := 5) dX4_recalls_74 (by decide) ?_
          have hr0 : rqI T b k = 0 := tf_f (fun q => by exact c_30 q.1)
          exact j_lv (ih (nm - (k + 1)).toNat (by omega) (k + 1) acc w1 (by omega) (by omega) rfl (by rw [sm_s hk.1, ← hv, hr0, Int.add_zero]) ((rcC_n (by rw [hr0]; decide)) ▸ hM1) hF1) [2, 3, 4, 5, 0] rfl
        · skip
          refine j_aload_n X dX4_recalls_33 (q := 34) rfl 1 rfl ?_
          refine j_get X (v := .ref (am 20)) fl_X4_56 hM1.obj rfl dX4_recalls_34 (q := 37) rfl ?_
          refine j_iload X dX4_recalls_37 (q := 39) rfl 5 rfl ?_
          refine jm_iald X hM1 20 (by decide) rfl (by omega) (by show _ < (200 : Int); omega) dX4_recalls_39 (q := 40) rfl ?_
          rw [rcC_o (by decide)]
          refine j_aload_n X dX4_recalls_40 (q := 41) rfl 1 rfl ?_
          refine j_get X (v := .ref (am 8)) fl_X4_22 hM1.obj rfl dX4_recalls_41 (q := 44) rfl ?_
          refine j_iload X dX4_recalls_44 (q := 46) rfl 0 rfl ?_
          refine jm_iald X hM1 8 (by decide) rfl (by omega) (by show _ < (12 : Int); omega) dX4_recalls_46 (q := 47) rfl ?_
          rw [rcC_o (by decide)]
          refine j_icmp_le X (tgt := 71) dX4_recalls_47 (by decide) (q := 50) rfl (by omega) (by omega) (fun c_47 => ?_) (fun c_47 => ?_)
          · skip
            refine j_iinc X dX4_recalls_71 5 rfl (by decide) (q := 74) rfl (lv' := [(4, .int (iI (k + 1))), (5, .int (iI (T 19 k))), (0, .ref (am 0)), (1, .int (iI (((b : Nat) : Int)))), (2, .int (iI (mn))), (3, .int (iI (acc)))]) (by first | rfl | simp [cat_rf, cat_i, cat_l, cat_r]) ?_
            refine j_goto X (tgt := 5) dX4_recalls_74 (by decide) ?_
            have hr0 : rqI T b k = 0 := tf_f (fun q => by have := q.2.1; omega)
            exact j_lv (ih (nm - (k + 1)).toNat (by omega) (k + 1) acc w1 (by omega) (by omega) rfl (by rw [sm_s hk.1, ← hv, hr0, Int.add_zero]) ((rcC_n (by rw [hr0]; decide)) ▸ hM1) hF1) [2, 3, 4, 5, 0] rfl
          · skip
            refine j_aload_n X dX4_recalls_50 (q := 51) rfl 1 rfl ?_
            refine j_get X (v := .ref (am 21)) fl_X4_59 hM1.obj rfl dX4_recalls_51 (q := 54) rfl ?_
            refine j_iload X dX4_recalls_54 (q := 56) rfl 5 rfl ?_
            refine jm_zald X hM1 21 (by decide) rfl (by omega) (by show _ < (200 : Int); omega) dX4_recalls_56 (q := 57) rfl ?_
            rw [rcC_at]
            refine j_if_ne X (tgt := 71) dX4_recalls_57 (by decide) (q := 60) rfl (by omega) (fun c_57 => ?_) (fun c_57 => ?_)
            · skip
              refine j_iinc X dX4_recalls_71 5 rfl (by decide) (q := 74) rfl (lv' := [(4, .int (iI (k + 1))), (5, .int (iI (T 19 k))), (0, .ref (am 0)), (1, .int (iI (((b : Nat) : Int)))), (2, .int (iI (mn))), (3, .int (iI (acc)))]) (by first | rfl | simp [cat_rf, cat_i, cat_l, cat_r]) ?_
              refine j_goto X (tgt := 5) dX4_recalls_74 (by decide) ?_
              have hr0 : rqI T b k = 0 := tf_f (fun q => by exact c_57 q.2.2)
              exact j_lv (ih (nm - (k + 1)).toNat (by omega) (k + 1) acc w1 (by omega) (by omega) rfl (by rw [sm_s hk.1, ← hv, hr0, Int.add_zero]) ((rcC_n (by rw [hr0]; decide)) ▸ hM1) hF1) [2, 3, 4, 5, 0] rfl
            · skip
              refine j_iinc X dX4_recalls_60 4 rfl (by decide) (q := 63) rfl (lv' := [(3, .int (iI (acc + 1))), (5, .int (iI (T 19 k))), (0, .ref (am 0)), (1, .int (iI (((b : Nat) : Int)))), (2, .int (iI (mn))), (4, .int (iI (k)))]) (by first | rfl | simp [cat_rf, cat_i, cat_l, cat_r]) ?_
              refine j_aload_n X dX4_recalls_63 (q := 64) rfl 2 rfl ?_
              refine j_get X (v := .ref (am 21)) fl_X4_59 hM1.obj rfl dX4_recalls_64 (q := 67) rfl ?_
              refine j_iload X dX4_recalls_67 (q := 69) rfl 5 rfl ?_
              refine j_iload_n X dX4_recalls_69 (q := 70) rfl 4 rfl ?_
              refine jm_zast X hM1 21 (by decide) rfl (by omega) (by show _ < (200 : Int); omega) (b01 hmn) dX4_recalls_70 (q := 71) rfl (fun w_4 hMw_4 hFw_4 => ?_)
              refine j_iinc X dX4_recalls_71 5 rfl (by decide) (q := 74) rfl (lv' := [(4, .int (iI (k + 1))), (3, .int (iI (acc + 1))), (5, .int (iI (T 19 k))), (0, .ref (am 0)), (1, .int (iI (((b : Nat) : Int)))), (2, .int (iI (mn)))]) (by first | rfl | simp [cat_rf, cat_i, cat_l, cat_r]) ?_
              refine j_goto X (tgt := 5) dX4_recalls_74 (by decide) ?_
              have hr1 : rqI T b k = 1 := tf_t ⟨c_30, by omega, c_57⟩
              exact j_lv (ih (nm - (k + 1)).toNat (by omega) (k + 1) (acc + 1) w_4 (by omega) (by omega) rfl (by rw [sm_s hk.1, ← hv, hr1]) ((rcC_y hk.1 hr1) ▸ hMw_4) (hF1.tr hFw_4)) [3, 4, 5, 1, 0] rfl
  exact j_lv (loop _ 0 0 w (by omega) (by decide) rfl rfl (by rw [rcC_0]; exact hM) Fr.rf) [2, 3, 4, 1, 0] rfl

set_option maxRecDepth 100000 in
set_option maxHeartbeats 4000000 in
theorem c_X4_atStake {l : Launch} (hlt : l.stackTraces = false) {D : va_G} {ca : Nat → ClassId} {base : Nat} {am : Nat → Nat} {th : Int} {n nm : Int} {T : St} {w : Wd} (hM : MW base ca am th T w) (hI : MI n nm T) (z : Int) (hz : -2147483648 ≤ z ∧ z ≤ 2147483647) : CT l D ca base yX4_atStake cX4_atStake 2 (some .int) 3 0 0 [.ref (am 0), .int (iI (z))] w (fun v w' => (∃ b : Nat, (b < 4096 ∧ ((0 ≤ z ∧ z < n) ∧ 0 < T 8 z → (∀ u, 0 ≤ u → u < n → (hs b u = 1 ↔ ∃ f, rcF T z f u = 1)))) ∧ v = some (.int (iI (if (0 ≤ z ∧ z < n) ∧ 0 < T 8 z then cnM T b nm else 0)))) ∧ MW base ca am (if 0 ≤ z ∧ z < n then 0 else 1) T w' ∧ Fr 1 w w') (fun _ _ => False) := by
  obtain ⟨hn, hnm, e2, e18, h1t, h3t⟩ := hI.top
  refine CT.mk hlt (by decide +kernel) (by first | exact Nat.le_of_ble_eq_true rfl | simp [lg_sl, cat_rf, cat_i, cat_l, cat_r]) ?_
  intro p e s m args below meth c X htab
  rw [show lv_args 0 [.ref (am 0), .int (iI (z))] = [(0, .ref (am 0)), (1, .int (iI (z)))] from by first | rfl | simp [lv_args, cat_rf, cat_i, cat_l, cat_r]]
  refine j_aload_n X dX4_atStake_0 (q := 1) rfl 0 rfl ?_
  refine j_iload_n X dX4_atStake_1 (q := 2) rfl 1 rfl ?_
  refine j_callV X (As := [.int (iI (z))]) (st := []) hM.obj rfl (c_X4_isAsked hlt hM hI z hz) sv_X4_121 (by decide) rfl (by first | decide | exact Nat.le_of_ble_eq_true rfl | simp [cat_rf, cat_i, cat_l, cat_r]) dX4_atStake_2 (by decide) (fun _ _ h => h.elim) ?_
  rintro v9 w9 ⟨rfl, hM9, hF9⟩
  refine j_st (st := [.int (iI (tf (0 ≤ z ∧ z < n)))]) ?_
  have hb9 := tf_b (0 ≤ z ∧ z < n)
  refine j_if_eq X (tgt := 29) dX4_atStake_5 (by decide) (q := 8) rfl (by omega) (fun c_5 => ?_) (fun c_5 => ?_)
  · skip
    have k1 : ¬ (0 ≤ z ∧ z < n) := tf_0 c_5
    rw [if_neg k1] at hM9
    refine j_iconst X (a := 0) dX4_atStake_29 (q := 30) rfl ?_
    exact j_iret X rfl dX4_atStake_30 (⟨⟨0, ⟨by decide, fun q => absurd q.1 k1⟩, by rw [if_neg (fun q => k1 q.1)]⟩, by rw [if_neg k1]; exact hM9, hF9⟩) (by decide) (by decide)
  · skip
    have k1 : 0 ≤ z ∧ z < n := tf_1 c_5
    rw [if_pos k1] at hM9
    obtain ⟨t_5_0, t_5_1, t_5_2, t_5_3, t_5_4, t_5_5, t_5_6, t_5_7, t_5_8, t_5_9, t_5_10, t_5_11⟩ := hI.ins (i := z) k1.1 k1.2
    refine j_aload_n X dX4_atStake_8 (q := 9) rfl 0 rfl ?_
    refine j_iload_n X dX4_atStake_9 (q := 10) rfl 1 rfl ?_
    refine j_callV X (As := [.int (iI (z))]) (st := []) hM9.obj rfl (c_X4_isCalibrated hlt hM9 hI z k1) sv_X4_83 (by decide) rfl (by first | decide | exact Nat.le_of_ble_eq_true rfl | simp [cat_rf, cat_i, cat_l, cat_r]) dX4_atStake_10 (by decide) (fun _ _ h => h.elim) ?_
    rintro v9 w9 ⟨rfl, rfl⟩
    refine j_st (st := [.int (iI (tf (0 < T 8 z)))]) ?_
    have hb8 := tf_b (0 < T 8 z)
    refine j_if_eq X (tgt := 29) dX4_atStake_13 (by decide) (q := 16) rfl (by omega) (fun c_13 => ?_) (fun c_13 => ?_)
    · skip
      have k13 := tf_0 c_13
      refine j_iconst X (a := 0) dX4_atStake_29 (q := 30) rfl ?_
      exact j_iret X rfl dX4_atStake_30 (⟨⟨0, ⟨by decide, fun q => absurd q.2 k13⟩, by rw [if_neg (fun q => k13 q.2)]⟩, by rw [if_pos k1]; exact hM9, hF9⟩) (by decide) (by decide)
    · skip
      have k13 := tf_1 c_13
      refine j_aload_n X dX4_atStake_16 (q := 17) rfl 0 rfl ?_
      refine j_aload_n X dX4_atStake_17 (q := 18) rfl 0 rfl ?_
      refine j_iload_n X dX4_atStake_18 (q := 19) rfl 1 rfl ?_
      refine j_callV X (As := [.int (iI (z))]) (st := [.ref (am 0)]) hM9.obj rfl (c_X4_reached hlt hM9 hI z k1) sv_X4_92 (by decide) rfl (by first | decide | exact Nat.le_of_ble_eq_true rfl | simp [cat_rf, cat_i, cat_l, cat_r]) dX4_atStake_19 (by decide) (fun _ _ h => h.elim) ?_
      rintro v9 w9 ⟨⟨b, rfl, hb, hB⟩, rfl⟩
      refine j_st (st := [.int (iI (((b : Nat) : Int))), .ref (am 0)]) ?_
      refine j_iconst X (a := 0) dX4_atStake_22 (q := 23) rfl ?_
      refine j_callV X (As := [.int (iI (((b : Nat) : Int))), .int (iI (0))]) (st := []) hM9.obj rfl (c_X4_recalls hlt hM9 hI b hb 0 (by decide)) sv_X4_96 (by decide) rfl (by first | decide | exact Nat.le_of_ble_eq_true rfl | simp [cat_rf, cat_i, cat_l, cat_r]) dX4_atStake_23 (by decide) (fun _ _ h => h.elim) ?_
      rintro v9 w9 ⟨rfl, hM8, hF8⟩
      refine j_st (st := [.int (iI (cnM T b nm))]) ?_
      rw [rcC_f] at hM8
      refine j_goto X (tgt := 30) dX4_atStake_26 (by decide) ?_
      exact j_iret X rfl dX4_atStake_30 (⟨⟨b, ⟨hb, fun _ => hB⟩, by rw [if_pos ⟨k1, k13⟩]⟩, by rw [if_pos k1]; exact hM8, hF9.tr hF8⟩) (by decide) (by decide)

set_option maxRecDepth 100000 in
set_option maxHeartbeats 4000000 in
theorem c_X4_fails {l : Launch} (hlt : l.stackTraces = false) {D : va_G} {ca : Nat → ClassId} {base : Nat} {am : Nat → Nat} {th : Int} {n nm : Int} {T : St} {w : Wd} (hM : MW base ca am th T w) (hI : MI n nm T) (z : Int) (hz : 0 ≤ z ∧ z < n) (h14 : T 14 z ≤ 511) : CT l D ca base yX4_fails cX4_fails 4 (some .int) 2 0 0 [.ref (am 0), .int (iI (z))] w (fun v w' => (∃ b : Nat, (b < 4096 ∧ (∀ u, 0 ≤ u → u < n → (hs b u = 1 ↔ ∃ f, rcF T z f u = 1))) ∧ v = some (.int (iI (cnM T b nm))) ∧ MW base ca am th (faM T b z n nm) w') ∧ Fr 1 w w') (fun _ _ => False) := by
  obtain ⟨hn, hnm, e2, e18, h1t, h3t⟩ := hI.top
  refine CT.mk hlt (by decide +kernel) (by first | exact Nat.le_of_ble_eq_true rfl | simp [lg_sl, cat_rf, cat_i, cat_l, cat_r]) ?_
  intro p e s m args below meth c X htab
  rw [show lv_args 0 [.ref (am 0), .int (iI (z))] = [(0, .ref (am 0)), (1, .int (iI (z)))] from by first | rfl | simp [lv_args, cat_rf, cat_i, cat_l, cat_r]]
  obtain ⟨t_6_0, t_6_1, t_6_2, t_6_3, t_6_4, t_6_5, t_6_6, t_6_7, t_6_8, t_6_9, t_6_10, t_6_11⟩ := hI.ins (i := z) hz.1 hz.2
  refine j_aload_n X dX4_fails_0 (q := 1) rfl 0 rfl ?_
  refine j_iload_n X dX4_fails_1 (q := 2) rfl 1 rfl ?_
  refine j_callV X (As := [.int (iI (z))]) (st := []) hM.obj rfl (c_X4_reached hlt hM hI z hz) sv_X4_92 (by decide) rfl (by first | decide | exact Nat.le_of_ble_eq_true rfl | simp [cat_rf, cat_i, cat_l, cat_r]) dX4_fails_2 (by decide) (fun _ _ h => h.elim) ?_
  rintro v9 w9 ⟨⟨b, rfl, hb, hB⟩, rfl⟩
  refine j_st (st := [.int (iI (((b : Nat) : Int)))]) ?_
  refine j_istore_n X (i := 2) dX4_fails_5 rfl (by decide) (q := 6) rfl (lv' := [(2, .int (iI (((b : Nat) : Int)))), (0, .ref (am 0)), (1, .int (iI (z)))]) (by first | rfl | simp [cat_rf, cat_i, cat_l, cat_r]) ?_
  refine j_aload_n X dX4_fails_6 (q := 7) rfl 1 rfl ?_
  refine j_get X (v := .ref (am 14)) fl_X4_41 hM.obj rfl dX4_fails_7 (q := 10) rfl ?_
  refine j_iload_n X dX4_fails_10 (q := 11) rfl 2 rfl ?_
  refine j_dup2 X rfl rfl dX4_fails_11 (q := 12) rfl ?_
  refine jm_iald X hM 14 (by decide) rfl (by omega) (by show _ < (12 : Int); omega) dX4_fails_12 (q := 13) rfl ?_
  refine j_iconst X (a := 1) dX4_fails_13 (q := 14) rfl ?_
  refine j_iadd X dX4_fails_14 (q := 15) rfl ?_
  refine jm_iast X hM 14 (by decide) rfl (by omega) (by show _ < (12 : Int); omega) dX4_fails_15 (q := 16) rfl (fun w_7 hMw_7 hFw_7 => ?_)
  obtain ⟨T1, hT1⟩ : ∃ T1, T1 = up T 14 z (T 14 z + 1) := ⟨_, rfl⟩
  rw [← hT1] at hMw_7
  have o1 : ∀ (g : Nat) (j : Int), g ≠ 14 → T1 g j = T g j := fun g j h => by rw [hT1, up_f h]
  refine j_iconst X (a := 0) dX4_fails_16 (q := 17) rfl ?_
  refine j_istore_n X (i := 3) dX4_fails_17 rfl (by decide) (q := 18) rfl (lv' := [(3, .int (iI (0))), (2, .int (iI (((b : Nat) : Int)))), (0, .ref (am 0)), (1, .int (iI (z)))]) (by first | rfl | simp [cat_rf, cat_i, cat_l, cat_r]) ?_
  have loop : ∀ (kk : Nat) (k : Int) (w2 : Wd), (0 ≤ k ∧ k ≤ n) → (n - k).toNat = kk → MW base ca am th (suC T1 b z k) w2 → Fr 1 w w2 → J p l e (Rm 2 0 0) s m args below meth c (vx_MQ below (Qn D base (fun v w' => (∃ b : Nat, (b < 4096 ∧ (∀ u, 0 ≤ u → u < n → (hs b u = 1 ↔ ∃ f, rcF T z f u = 1))) ∧ v = some (.int (iI (cnM T b nm))) ∧ MW base ca am th (faM T b z n nm) w') ∧ Fr 1 w w')) (Xn D base (fun _ _ => False)) args s 0 0 (fun q => base ≤ q)) D base 4 0 0 18 [(0, .ref (am 0)), (1, .int (iI (z))), (2, .int (iI (((b : Nat) : Int)))), (3, .int (iI (k)))] [] w2 := by
    intro kk
    induction kk using Nat.strongRecOn with
    | ind kk ih =>
      intro k w2 hk hkk hM2 hF2
      refine j_iload_n X dX4_fails_18 (q := 19) rfl 3 rfl ?_
      refine j_aload_n X dX4_fails_19 (q := 20) rfl 0 rfl ?_
      refine j_get X (v := .int (iI (T 2 0))) fl_X4_66 hM2.obj (by show some (Value.int (iI (suC T1 b z k 2 0))) = _; rw [suC_o (by decide), o1 2 0 (by decide)]) dX4_fails_20 (q := 23) rfl ?_
      refine j_icmp_ge X (tgt := 66) dX4_fails_23 (by decide) (q := 26) rfl (by omega) (by omega) (fun c_23 => ?_) (fun c_23 => ?_)
      · skip
        refine j_aload_n X dX4_fails_66 (q := 67) rfl 0 rfl ?_
        refine j_iload_n X dX4_fails_67 (q := 68) rfl 2 rfl ?_
        refine j_iconst X (a := 1) dX4_fails_68 (q := 69) rfl ?_
        have e1 : suC T1 b z n = suC T1 b z k := by rw [show n = k by omega]
        rw [← e1] at hM2
        have hI2 : MI n nm (suC T1 b z n) := hI.cong (fun g h13 h14 => by funext j; rw [suC_o h13, o1 g j h14]) (fun i a b => by unfold suC; rw [if_pos ⟨rfl, a, b⟩]; exact tf_b _) (fun i a b => by rw [suC_o (by decide), hT1]; have hq := (hI.ins a b).2.2.2.2.2.2.2.2.2.2.1; by_cases hi : i = z; rw [hi, up_s]; omega; rw [up_i hi]; exact hq)
        refine j_callV X (As := [.int (iI (((b : Nat) : Int))), .int (iI (1))]) (st := []) hM2.obj rfl (c_X4_recalls hlt hM2 hI2 b hb 1 (by decide)) sv_X4_96 (by decide) rfl (by first | decide | exact Nat.le_of_ble_eq_true rfl | simp [cat_rf, cat_i, cat_l, cat_r]) dX4_fails_69 (by decide) (fun _ _ h => h.elim) ?_
        rintro v9 w9 ⟨rfl, hM8, hF8⟩
        refine j_st (st := [.int (iI (cnM (suC T1 b z n) b nm))]) ?_
        have e2 : cnM (suC T1 b z n) b nm = cnM T b nm := sm_cong fun i a b2 => by unfold rqI; rw [suC_o (by decide), suC_o (by decide), suC_o (by decide), suC_o (by decide), o1 _ _ (by decide), o1 _ _ (by decide), o1 _ _ (by decide), o1 _ _ (by decide)]
        exact j_iret X rfl dX4_fails_72 (⟨⟨b, ⟨hb, hB⟩, by rw [e2], by rw [faM, ← hT1]; exact hM8⟩, hF2.tr hF8⟩) (by decide) (by decide)
      · skip
        obtain ⟨t_8_0, t_8_1, t_8_2, t_8_3, t_8_4, t_8_5, t_8_6, t_8_7, t_8_8, t_8_9, t_8_10, t_8_11⟩ := hI.ins (i := k) hk.1 (by omega)
        refine j_aload_n X dX4_fails_26 (q := 27) rfl 0 rfl ?_
        refine j_get X (v := .ref (am 13)) fl_X4_37 hM2.obj rfl dX4_fails_27 (q := 30) rfl ?_
        refine j_iload_n X dX4_fails_30 (q := 31) rfl 3 rfl ?_
        refine j_aload_n X dX4_fails_31 (q := 32) rfl 0 rfl ?_
        refine j_get X (v := .ref (am 13)) fl_X4_37 hM2.obj rfl dX4_fails_32 (q := 35) rfl ?_
        refine j_iload_n X dX4_fails_35 (q := 36) rfl 3 rfl ?_
        refine jm_zald X hM2 13 (by decide) rfl (by omega) (by show _ < (12 : Int); omega) dX4_fails_36 (q := 37) rfl ?_
        rw [suC_at, o1 13 k (by decide)]
        refine j_if_ne X (tgt := 54) dX4_fails_37 (by decide) (q := 40) rfl (by omega) (fun c_37 => ?_) (fun c_37 => ?_)
        · skip
          refine j_iconst X (a := 1) dX4_fails_54 (q := 55) rfl ?_
          refine j_goto X (tgt := 59) dX4_fails_55 (by decide) ?_
          refine jm_zast X hM2 13 (by decide) rfl (by omega) (by show _ < (12 : Int); omega) (Or.inr rfl) dX4_fails_59 (q := 60) rfl (fun w_9 hMw_9 hFw_9 => ?_)
          refine j_iinc X dX4_fails_60 3 rfl (by decide) (q := 63) rfl (lv' := [(3, .int (iI (k + 1))), (0, .ref (am 0)), (1, .int (iI (z))), (2, .int (iI (((b : Nat) : Int))))]) (by first | rfl | simp [cat_rf, cat_i, cat_l, cat_r]) ?_
          refine j_goto X (tgt := 18) dX4_fails_63 (by decide) ?_
          exact j_lv (ih (n - (k + 1)).toNat (by omega) (k + 1) w_9 (by omega) rfl ((suC_s (T := T1) (b := b) (z := z) (k := k) (v := 1) hk.1 (by rw [o1 13 k (by decide), tf_t (Or.inl c_37)])) ▸ hMw_9) (hF2.tr hFw_9)) [1, 2, 3, 0] rfl
        · skip
          refine j_iload_n X dX4_fails_40 (q := 41) rfl 2 rfl ?_
          refine j_iload_n X dX4_fails_41 (q := 42) rfl 3 rfl ?_
          refine j_ishr X rfl dX4_fails_42 (q := 43) rfl ?_
          refine j_iconst X (a := 1) dX4_fails_43 (q := 44) rfl ?_
          refine j_iand X (bt_has (b := b) (z := k) hb (by omega) (by omega)) dX4_fails_44 (q := 45) rfl ?_
          have hbs := hs_b b (k)
          refine j_iconst X (a := 1) dX4_fails_45 (q := 46) rfl ?_
          refine j_icmp_ne X (tgt := 58) dX4_fails_46 (by decide) (q := 49) rfl (by omega) (by omega) (fun c_46 => ?_) (fun c_46 => ?_)
          · skip
            refine j_iconst X (a := 0) dX4_fails_58 (q := 59) rfl ?_
            refine jm_zast X hM2 13 (by decide) rfl (by omega) (by show _ < (12 : Int); omega) (Or.inl rfl) dX4_fails_59 (q := 60) rfl (fun w_10 hMw_10 hFw_10 => ?_)
            refine j_iinc X dX4_fails_60 3 rfl (by decide) (q := 63) rfl (lv' := [(3, .int (iI (k + 1))), (0, .ref (am 0)), (1, .int (iI (z))), (2, .int (iI (((b : Nat) : Int))))]) (by first | rfl | simp [cat_rf, cat_i, cat_l, cat_r]) ?_
            refine j_goto X (tgt := 18) dX4_fails_63 (by decide) ?_
            exact j_lv (ih (n - (k + 1)).toNat (by omega) (k + 1) w_10 (by omega) rfl ((suC_s (T := T1) (b := b) (z := z) (k := k) (v := 0) hk.1 (by rw [o1 13 k (by decide), tf_f (fun q => q.elim (fun q => q (by omega)) (fun q => absurd q.1 c_46))])) ▸ hMw_10) (hF2.tr hFw_10)) [1, 2, 3, 0] rfl
          · skip
            refine j_iload_n X dX4_fails_49 (q := 50) rfl 3 rfl ?_
            refine j_iload_n X dX4_fails_50 (q := 51) rfl 1 rfl ?_
            refine j_icmp_eq X (tgt := 58) dX4_fails_51 (by decide) (q := 54) rfl (by omega) (by omega) (fun c_51 => ?_) (fun c_51 => ?_)
            · skip
              refine j_iconst X (a := 0) dX4_fails_58 (q := 59) rfl ?_
              refine jm_zast X hM2 13 (by decide) rfl (by omega) (by show _ < (12 : Int); omega) (Or.inl rfl) dX4_fails_59 (q := 60) rfl (fun w_11 hMw_11 hFw_11 => ?_)
              refine j_iinc X dX4_fails_60 3 rfl (by decide) (q := 63) rfl (lv' := [(3, .int (iI (k + 1))), (0, .ref (am 0)), (1, .int (iI (z))), (2, .int (iI (((b : Nat) : Int))))]) (by first | rfl | simp [cat_rf, cat_i, cat_l, cat_r]) ?_
              refine j_goto X (tgt := 18) dX4_fails_63 (by decide) ?_
              exact j_lv (ih (n - (k + 1)).toNat (by omega) (k + 1) w_11 (by omega) rfl ((suC_s (T := T1) (b := b) (z := z) (k := k) (v := 0) hk.1 (by rw [o1 13 k (by decide), tf_f (fun q => q.elim (fun q => q (by omega)) (fun q => absurd c_51 q.2))])) ▸ hMw_11) (hF2.tr hFw_11)) [1, 2, 3, 0] rfl
            · skip
              refine j_iconst X (a := 1) dX4_fails_54 (q := 55) rfl ?_
              refine j_goto X (tgt := 59) dX4_fails_55 (by decide) ?_
              refine jm_zast X hM2 13 (by decide) rfl (by omega) (by show _ < (12 : Int); omega) (Or.inr rfl) dX4_fails_59 (q := 60) rfl (fun w_12 hMw_12 hFw_12 => ?_)
              refine j_iinc X dX4_fails_60 3 rfl (by decide) (q := 63) rfl (lv' := [(3, .int (iI (k + 1))), (0, .ref (am 0)), (1, .int (iI (z))), (2, .int (iI (((b : Nat) : Int))))]) (by first | rfl | simp [cat_rf, cat_i, cat_l, cat_r]) ?_
              refine j_goto X (tgt := 18) dX4_fails_63 (by decide) ?_
              exact j_lv (ih (n - (k + 1)).toNat (by omega) (k + 1) w_12 (by omega) rfl ((suC_s (T := T1) (b := b) (z := z) (k := k) (v := 1) hk.1 (by rw [o1 13 k (by decide), tf_t (Or.inr ⟨c_46, c_51⟩)])) ▸ hMw_12) (hF2.tr hFw_12)) [1, 2, 3, 0] rfl
  exact j_lv (loop _ 0 w_7 (by omega) rfl (by rw [suC_0]; exact hMw_7) hFw_7) [2, 3, 1, 0] rfl
