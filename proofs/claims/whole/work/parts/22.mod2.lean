theorem smk {g : Int → Int} {a k : Int} (h : a ≤ k) : sm (fun j => g (a + j)) (k + 1 - a).toNat = sm (fun j => g (a + j)) (k - a).toNat + g k := by
  rw [show k + 1 - a = (k - a) + 1 by omega, sm_s (by omega), show a + (k - a) = k by omega]
theorem sm_a {f : Int → Int} {B : Int} : ∀ {k : Nat}, (∀ i : Int, 0 ≤ i → i < k → -B ≤ f i ∧ f i ≤ B) → -(B * k) ≤ sm f k ∧ sm f k ≤ B * k
  | 0, _ => by simp [sm]
  | k + 1, h => by
    have h1 := sm_a (k := k) fun i a b => h i a (by omega)
    have h2 := h k (by omega) (by omega)
    have e : B * ((k + 1 : Nat) : Int) = B * k + B := by rw [Int.natCast_add, Int.mul_add]; simp
    rw [e]
    show -(B * k + B) ≤ sm f k + f k ∧ sm f k + f k ≤ B * k + B
    omega
theorem sm_pos {f : Int → Int} : ∀ {k : Nat}, (∀ i : Int, 0 ≤ i → i < k → 1 ≤ f i) → (k : Int) ≤ sm f k
  | 0, _ => by simp [sm]
  | k + 1, h => by
    have h1 := sm_pos (k := k) fun i a b => h i a (by omega)
    have h2 := h k (by omega) (by omega)
    show ((k + 1 : Nat) : Int) ≤ sm f k + f k
    omega
def pp (T : St) : Int → Int := fun k => T 16 k * T 17 k
def pq (T : St) : Int → Int := fun k => T 16 k * T 16 k
def pP (T : St) (z : Int) : Int := sm (fun j => pp T (8 * z + j)) (T 15 z).toNat
def pQ (T : St) (z : Int) : Int := sm (fun j => pq T (8 * z + j)) (T 15 z).toNat
theorem pp_b {T : St} {k : Int} (h : RP T k) : (-102297600000 ≤ pp T k ∧ pp T k ≤ 102297600000) ∧ (1 ≤ pq T k ∧ pq T k ≤ 261700000000) := by
  obtain ⟨h1, h2⟩ := h
  have h3 := mul_rng h2 (show 0 ≤ T 16 k ∧ T 16 k ≤ 511488 by omega) (by decide)
  have h4 := sq_r (show 0 ≤ T 16 k ∧ T 16 k ≤ 511488 by omega)
  have h5 : T 16 k * 1 ≤ T 16 k * T 16 k := Int.mul_le_mul_of_nonneg_left h1.1 (by omega)
  have h6 : pp T k = T 17 k * T 16 k := Int.mul_comm _ _
  have h7 : pq T k = T 16 k * T 16 k := rfl
  omega
theorem pP_b {n nm : Int} {T : St} (hI : MI n nm T) {z : Int} (hz : 0 ≤ z ∧ z < n) : (-900000000000 ≤ pP T z ∧ pP T z ≤ 900000000000) ∧ (0 ≤ pQ T z ∧ pQ T z ≤ 2200000000000) ∧ (pQ T z ≤ 0 ↔ T 15 z = 0) := by
  obtain ⟨-, -, -, -, -, -, -, -, -, -, -, h15⟩ := hI.ins hz.1 hz.2
  have g : ∀ i : Int, 0 ≤ i → i < ((T 15 z).toNat : Nat) → RP T (8 * z + i) := fun i a b => hI.pts hz.1 hz.2 a (by omega)
  have h1 := sm_a (f := fun j => pp T (8 * z + j)) (k := (T 15 z).toNat) fun i a b => (pp_b (g i a b)).1
  have h2 := sm_a (f := fun j => pq T (8 * z + j)) (B := 261700000000) (k := (T 15 z).toNat) fun i a b => by
    have := (pp_b (g i a b)).2
    show -261700000000 ≤ pq T (8 * z + i) ∧ pq T (8 * z + i) ≤ 261700000000
    omega
  have h3 := sm_pos (f := fun j => pq T (8 * z + j)) (k := (T 15 z).toNat) fun i a b => (pp_b (g i a b)).2.1
  have e1 : pP T z = sm (fun j => pp T (8 * z + j)) (T 15 z).toNat := rfl
  have e2 : pQ T z = sm (fun j => pq T (8 * z + j)) (T 15 z).toNat := rfl
  rw [← e1] at h1
  rw [← e2] at h2 h3
  have e3 : pQ T z ≤ 0 ↔ T 15 z = 0 := by
    constructor
    · intro h; omega
    · intro h
      rw [e2, h]
      exact Int.le_refl 0
  omega
def errM (T : St) (z d : Int) : Int := if pQ T z ≤ 0 then T 12 z else T 12 z + pP T z * d / pQ T z
theorem errM_b {n nm : Int} {T : St} (hI : MI n nm T) {z d : Int} (hz : 0 ≤ z ∧ z < n) (hd : 0 ≤ d ∧ d ≤ 9999) : -9000000000000000 ≤ errM T z d ∧ errM T z d ≤ 9000000000000000 := by
  obtain ⟨-, -, -, -, -, -, -, -, h12, -, -, h15⟩ := hI.ins hz.1 hz.2
  obtain ⟨h1, h2, h3⟩ := pP_b hI hz
  unfold errM
  split
  · omega
  · have h4 := mul_rng h1 hd (by decide)
    have h5 := ediv_rng (x := pP T z * d) (y := pQ T z) (900000000000 * 9999) h4 (by omega) (by decide)
    omega
theorem tmod_neg {x y : Int} (hy : 1 ≤ y) : x / y = if x.tmod y < 0 then x.tdiv y - 1 else x.tdiv y := by
  have h1 := Int.mul_tdiv_add_tmod x y
  rw [fdiv_lem hy]
  by_cases hx : x < 0
  · have h5 : x.tmod y ≤ 0 := (by have := Int.tmod_nonneg (a := -x) y (by omega); rw [Int.neg_tmod] at this; omega)
    by_cases hz : x.tdiv y * y = x
    · rw [if_neg (fun z => z.2 hz), if_neg (by rw [Int.mul_comm] at hz; omega)]
    · rw [if_pos ⟨hx, hz⟩, if_pos (by rw [Int.mul_comm] at hz; omega)]
  · have h5 := Int.tmod_nonneg (a := x) y (by omega)
    rw [if_neg (fun z => hx z.1), if_neg (by omega)]
def oM (T : St) (z : Int) : Int → Int := fun d => tf (T 5 z < iabs (errM T z d))
theorem drF_s {o : Int → Int} {k : Nat} {d : Int} (h : o d ≠ 1) : drF o (k + 1) d = drF o k (d + 1) := by rw [drF, if_neg h]
theorem drF_e {o : Int → Int} {k : Nat} {d : Int} (h : o d = 1) : drF o (k + 1) d = d := by rw [drF, if_pos h]
def an (ref : Int → Int) : Nat → Int → Int
  | 0, u => u
  | k + 1, u => an ref k (ref u)
theorem an_s {ref : Int → Int} : ∀ (k : Nat) (u : Int), an ref (k + 1) u = ref (an ref k u)
  | 0, _ => rfl
  | k + 1, u => an_s k (ref u)
theorem rt_sq {a : Int} (h : 0 ≤ a ∧ a ≤ 999) : rt (a * a + 0 * 0) = a := by
  have hs := sq_r h
  refine (rt_of (by omega) ⟨h.1, by omega, fun t t0 t1 => ?_⟩).symm
  have h1 : t * t ≤ t * a := Int.mul_le_mul_of_nonneg_left (by omega) t0
  have h2 : t * a ≤ (a - 1) * a := Int.mul_le_mul_of_nonneg_right (by omega) h.1
  have h3 : (a - 1) * a = a * a - a := by rw [Int.sub_mul, Int.one_mul]
  omega
set_option maxRecDepth 100000 in
set_option maxHeartbeats 4000000 in
theorem c_X4_products {l : Launch} (hlt : l.stackTraces = false) {D : va_G} {ca : Nat → ClassId} {base : Nat} {am : Nat → Nat} {th : Int} {n nm : Int} {T : St} {w : Wd} (hM : MW base ca am th T w) (hI : MI n nm T) (z : Int) (hz : 0 ≤ z ∧ z < n) : CT l D ca base yX4_products cX4_products 5 (some .long) 0 0 0 [.ref (am 0), .int (iI (z))] w (fun v w' => v = some (.long (iL (pP T z))) ∧ w = w') (fun _ _ => False) := by
  obtain ⟨hn, hnm, e2, e18, h1t, h3t⟩ := hI.top
  refine CT.mk hlt (by decide +kernel) (by first | exact Nat.le_of_ble_eq_true rfl | simp [lg_sl, cat_rf, cat_i, cat_l, cat_r]) ?_
  intro p e s m args below meth c X htab
  rw [show lv_args 0 [.ref (am 0), .int (iI (z))] = [(0, .ref (am 0)), (1, .int (iI (z)))] from by first | rfl | simp [lv_args, cat_rf, cat_i, cat_l, cat_r]]
  obtain ⟨t_1_0, t_1_1, t_1_2, t_1_3, t_1_4, t_1_5, t_1_6, t_1_7, t_1_8, t_1_9, t_1_10, t_1_11⟩ := hI.ins (i := z) hz.1 hz.2
  refine j_lconst X (a := 0) (by decide +kernel) dX4_products_0 (q := 1) rfl ?_
  refine j_lstore_n X (i := 2) dX4_products_1 rfl (by decide) (q := 2) rfl (lv' := [(2, .long (iL (0))), (0, .ref (am 0)), (1, .int (iI (z)))]) (by first | rfl | simp [cat_rf, cat_i, cat_l, cat_r]) ?_
  refine j_bipush X (a := 8) (by decide +kernel) dX4_products_2 (q := 4) rfl ?_
  refine j_iload_n X dX4_products_4 (q := 5) rfl 2 rfl ?_
  refine j_imul X dX4_products_5 (q := 6) rfl ?_
  refine j_istore X (i := 4) dX4_products_6 (by decide) (q := 8) rfl (lv' := [(4, .int (iI (8 * z))), (2, .long (iL (0))), (0, .ref (am 0)), (1, .int (iI (z)))]) (by first | rfl | simp [cat_rf, cat_i, cat_l, cat_r]) ?_
  have loop : ∀ (kk : Nat) (k acc : Int), (8 * z ≤ k ∧ k ≤ 8 * z + T 15 z) → (8 * z + T 15 z - k).toNat = kk → acc = sm (fun j => pp T (8 * z + j)) (k - 8 * z).toNat → J p l e (Rm 0 0 0) s m args below meth c (vx_MQ below (Qn D base (fun v w' => v = some (.long (iL (pP T z))) ∧ w = w')) (Xn D base (fun _ _ => False)) args s 0 0 (fun q => base ≤ q)) D base 5 0 0 8 [(0, .ref (am 0)), (1, .int (iI (z))), (2, .long (iL (acc))), (4, .int (iI (k)))] [] w := by
    intro kk
    induction kk using Nat.strongRecOn with
    | ind kk ih =>
      intro k acc hk hkk hv
      refine j_iload X dX4_products_8 (q := 10) rfl 3 rfl ?_
      refine j_bipush X (a := 8) (by decide +kernel) dX4_products_10 (q := 12) rfl ?_
      refine j_iload_n X dX4_products_12 (q := 13) rfl 1 rfl ?_
      refine j_imul X dX4_products_13 (q := 14) rfl ?_
      refine j_aload_n X dX4_products_14 (q := 15) rfl 0 rfl ?_
      refine j_get X (v := .ref (am 15)) fl_X4_44 hM.obj rfl dX4_products_15 (q := 18) rfl ?_
      refine j_iload_n X dX4_products_18 (q := 19) rfl 1 rfl ?_
      refine jm_iald X hM 15 (by decide) rfl (by omega) (by show _ < (12 : Int); omega) dX4_products_19 (q := 20) rfl ?_
      refine j_iadd X dX4_products_20 (q := 21) rfl ?_
      refine j_icmp_ge X (tgt := 50) dX4_products_21 (by decide) (q := 24) rfl (by omega) (by omega) (fun c_21 => ?_) (fun c_21 => ?_)
      · skip
        refine j_lload_n X dX4_products_50 (q := 51) rfl 2 rfl ?_
        exact j_lret X rfl dX4_products_51 (⟨by rw [hv, show k = 8 * z + T 15 z by omega, show 8 * z + T 15 z - 8 * z = T 15 z by omega]; rfl, rfl⟩) (by decide) (by decide)
      · skip
        have hp : RP T k := by
          have h9 := hI.pts hz.1 hz.2 (j := k - 8 * z) (by omega) (by omega)
          rwa [show 8 * z + (k - 8 * z) = k by omega] at h9
        obtain ⟨hp1, hp2⟩ := hp
        refine j_lload_n X dX4_products_24 (q := 25) rfl 2 rfl ?_
        refine j_aload_n X dX4_products_25 (q := 26) rfl 0 rfl ?_
        refine j_get X (v := .ref (am 16)) fl_X4_47 hM.obj rfl dX4_products_26 (q := 29) rfl ?_
        refine j_iload X dX4_products_29 (q := 31) rfl 3 rfl ?_
        refine jm_iald X hM 16 (by decide) rfl (by omega) (by show _ < (96 : Int); omega) dX4_products_31 (q := 32) rfl ?_
        refine j_i2l X (by omega) dX4_products_32 (q := 33) rfl ?_
        refine j_aload_n X dX4_products_33 (q := 34) rfl 0 rfl ?_
        refine j_get X (v := .ref (am 17)) fl_X4_50 hM.obj rfl dX4_products_34 (q := 37) rfl ?_
        refine j_iload X dX4_products_37 (q := 39) rfl 3 rfl ?_
        refine jm_iald X hM 17 (by decide) rfl (by omega) (by show _ < (96 : Int); omega) dX4_products_39 (q := 40) rfl ?_
        refine j_i2l X (by omega) dX4_products_40 (q := 41) rfl ?_
        refine j_lmul X dX4_products_41 (q := 42) rfl ?_
        refine j_ladd X dX4_products_42 (q := 43) rfl ?_
        refine j_lstore_n X (i := 2) dX4_products_43 rfl (by decide) (q := 44) rfl (lv' := [(2, .long (iL (acc + ((T 16 k) * (T 17 k))))), (0, .ref (am 0)), (1, .int (iI (z))), (4, .int (iI (k)))]) (by first | rfl | simp [cat_rf, cat_i, cat_l, cat_r]) ?_
        refine j_iinc X dX4_products_44 3 rfl (by decide) (q := 47) rfl (lv' := [(4, .int (iI (k + 1))), (2, .long (iL (acc + ((T 16 k) * (T 17 k))))), (0, .ref (am 0)), (1, .int (iI (z)))]) (by first | rfl | simp [cat_rf, cat_i, cat_l, cat_r]) ?_
        refine j_goto X (tgt := 8) dX4_products_47 (by decide) ?_
        exact j_lv (ih ((8 * z + T 15 z - (k + 1)).toNat) (by omega) (k + 1) _ (by omega) rfl (by rw [hv]; exact (smk (g := pp T) hk.1).symm)) [2, 3, 1, 0] rfl
  exact j_lv (loop _ (8 * z) 0 (by omega) rfl (by rw [show 8 * z - 8 * z = 0 by omega]; rfl)) [2, 3, 1, 0] rfl

set_option maxRecDepth 100000 in
set_option maxHeartbeats 4000000 in
theorem c_X4_squares {l : Launch} (hlt : l.stackTraces = false) {D : va_G} {ca : Nat → ClassId} {base : Nat} {am : Nat → Nat} {th : Int} {n nm : Int} {T : St} {w : Wd} (hM : MW base ca am th T w) (hI : MI n nm T) (z : Int) (hz : 0 ≤ z ∧ z < n) : CT l D ca base yX4_squares cX4_squares 5 (some .long) 0 0 0 [.ref (am 0), .int (iI (z))] w (fun v w' => v = some (.long (iL (pQ T z))) ∧ w = w') (fun _ _ => False) := by
  obtain ⟨hn, hnm, e2, e18, h1t, h3t⟩ := hI.top
  refine CT.mk hlt (by decide +kernel) (by first | exact Nat.le_of_ble_eq_true rfl | simp [lg_sl, cat_rf, cat_i, cat_l, cat_r]) ?_
  intro p e s m args below meth c X htab
  rw [show lv_args 0 [.ref (am 0), .int (iI (z))] = [(0, .ref (am 0)), (1, .int (iI (z)))] from by first | rfl | simp [lv_args, cat_rf, cat_i, cat_l, cat_r]]
  obtain ⟨t_2_0, t_2_1, t_2_2, t_2_3, t_2_4, t_2_5, t_2_6, t_2_7, t_2_8, t_2_9, t_2_10, t_2_11⟩ := hI.ins (i := z) hz.1 hz.2
  refine j_lconst X (a := 0) (by decide +kernel) dX4_squares_0 (q := 1) rfl ?_
  refine j_lstore_n X (i := 2) dX4_squares_1 rfl (by decide) (q := 2) rfl (lv' := [(2, .long (iL (0))), (0, .ref (am 0)), (1, .int (iI (z)))]) (by first | rfl | simp [cat_rf, cat_i, cat_l, cat_r]) ?_
  refine j_bipush X (a := 8) (by decide +kernel) dX4_squares_2 (q := 4) rfl ?_
  refine j_iload_n X dX4_squares_4 (q := 5) rfl 2 rfl ?_
  refine j_imul X dX4_squares_5 (q := 6) rfl ?_
  refine j_istore X (i := 4) dX4_squares_6 (by decide) (q := 8) rfl (lv' := [(4, .int (iI (8 * z))), (2, .long (iL (0))), (0, .ref (am 0)), (1, .int (iI (z)))]) (by first | rfl | simp [cat_rf, cat_i, cat_l, cat_r]) ?_
  have loop : ∀ (kk : Nat) (k acc : Int), (8 * z ≤ k ∧ k ≤ 8 * z + T 15 z) → (8 * z + T 15 z - k).toNat = kk → acc = sm (fun j => pq T (8 * z + j)) (k - 8 * z).toNat → J p l e (Rm 0 0 0) s m args below meth c (vx_MQ below (Qn D base (fun v w' => v = some (.long (iL (pQ T z))) ∧ w = w')) (Xn D base (fun _ _ => False)) args s 0 0 (fun q => base ≤ q)) D base 5 0 0 8 [(0, .ref (am 0)), (1, .int (iI (z))), (2, .long (iL (acc))), (4, .int (iI (k)))] [] w := by
    intro kk
    induction kk using Nat.strongRecOn with
    | ind kk ih =>
      intro k acc hk hkk hv
      refine j_iload X dX4_squares_8 (q := 10) rfl 3 rfl ?_
      refine j_bipush X (a := 8) (by decide +kernel) dX4_squares_10 (q := 12) rfl ?_
      refine j_iload_n X dX4_squares_12 (q := 13) rfl 1 rfl ?_
      refine j_imul X dX4_squares_13 (q := 14) rfl ?_
      refine j_aload_n X dX4_squares_14 (q := 15) rfl 0 rfl ?_
      refine j_get X (v := .ref (am 15)) fl_X4_44 hM.obj rfl dX4_squares_15 (q := 18) rfl ?_
      refine j_iload_n X dX4_squares_18 (q := 19) rfl 1 rfl ?_
      refine jm_iald X hM 15 (by decide) rfl (by omega) (by show _ < (12 : Int); omega) dX4_squares_19 (q := 20) rfl ?_
      refine j_iadd X dX4_squares_20 (q := 21) rfl ?_
      refine j_icmp_ge X (tgt := 50) dX4_squares_21 (by decide) (q := 24) rfl (by omega) (by omega) (fun c_21 => ?_) (fun c_21 => ?_)
      · skip
        refine j_lload_n X dX4_squares_50 (q := 51) rfl 2 rfl ?_
        exact j_lret X rfl dX4_squares_51 (⟨by rw [hv, show k = 8 * z + T 15 z by omega, show 8 * z + T 15 z - 8 * z = T 15 z by omega]; rfl, rfl⟩) (by decide) (by decide)
      · skip
        have hp : RP T k := by
          have h9 := hI.pts hz.1 hz.2 (j := k - 8 * z) (by omega) (by omega)
          rwa [show 8 * z + (k - 8 * z) = k by omega] at h9
        obtain ⟨hp1, hp2⟩ := hp
        refine j_lload_n X dX4_squares_24 (q := 25) rfl 2 rfl ?_
        refine j_aload_n X dX4_squares_25 (q := 26) rfl 0 rfl ?_
        refine j_get X (v := .ref (am 16)) fl_X4_47 hM.obj rfl dX4_squares_26 (q := 29) rfl ?_
        refine j_iload X dX4_squares_29 (q := 31) rfl 3 rfl ?_
        refine jm_iald X hM 16 (by decide) rfl (by omega) (by show _ < (96 : Int); omega) dX4_squares_31 (q := 32) rfl ?_
        refine j_i2l X (by omega) dX4_squares_32 (q := 33) rfl ?_
        refine j_aload_n X dX4_squares_33 (q := 34) rfl 0 rfl ?_
        refine j_get X (v := .ref (am 16)) fl_X4_47 hM.obj rfl dX4_squares_34 (q := 37) rfl ?_
        refine j_iload X dX4_squares_37 (q := 39) rfl 3 rfl ?_
        refine jm_iald X hM 16 (by decide) rfl (by omega) (by show _ < (96 : Int); omega) dX4_squares_39 (q := 40) rfl ?_
        refine j_i2l X (by omega) dX4_squares_40 (q := 41) rfl ?_
        refine j_lmul X dX4_squares_41 (q := 42) rfl ?_
        refine j_ladd X dX4_squares_42 (q := 43) rfl ?_
        refine j_lstore_n X (i := 2) dX4_squares_43 rfl (by decide) (q := 44) rfl (lv' := [(2, .long (iL (acc + ((T 16 k) * (T 16 k))))), (0, .ref (am 0)), (1, .int (iI (z))), (4, .int (iI (k)))]) (by first | rfl | simp [cat_rf, cat_i, cat_l, cat_r]) ?_
        refine j_iinc X dX4_squares_44 3 rfl (by decide) (q := 47) rfl (lv' := [(4, .int (iI (k + 1))), (2, .long (iL (acc + ((T 16 k) * (T 16 k))))), (0, .ref (am 0)), (1, .int (iI (z)))]) (by first | rfl | simp [cat_rf, cat_i, cat_l, cat_r]) ?_
        refine j_goto X (tgt := 8) dX4_squares_47 (by decide) ?_
        exact j_lv (ih ((8 * z + T 15 z - (k + 1)).toNat) (by omega) (k + 1) _ (by omega) rfl (by rw [hv]; exact (smk (g := pq T) hk.1).symm)) [2, 3, 1, 0] rfl
  exact j_lv (loop _ (8 * z) 0 (by omega) rfl (by rw [show 8 * z - 8 * z = 0 by omega]; rfl)) [2, 3, 1, 0] rfl

set_option maxRecDepth 100000 in
set_option maxHeartbeats 4000000 in
theorem c_X4_errorAt {l : Launch} (hlt : l.stackTraces = false) {D : va_G} {ca : Nat → ClassId} {base : Nat} {am : Nat → Nat} {th : Int} {n nm : Int} {T : St} {w : Wd} (hM : MW base ca am th T w) (hI : MI n nm T) (z : Int) (hz : 0 ≤ z ∧ z < n) (d : Int) (hd : 0 ≤ d ∧ d ≤ 9999) : CT l D ca base yX4_errorAt cX4_errorAt 9 (some .long) 1 0 0 [.ref (am 0), .int (iI (z)), .int (iI (d))] w (fun v w' => v = some (.long (iL (errM T z d))) ∧ w = w') (fun _ _ => False) := by
  obtain ⟨hn, hnm, e2, e18, h1t, h3t⟩ := hI.top
  refine CT.mk hlt (by decide +kernel) (by first | exact Nat.le_of_ble_eq_true rfl | simp [lg_sl, cat_rf, cat_i, cat_l, cat_r]) ?_
  intro p e s m args below meth c X htab
  rw [show lv_args 0 [.ref (am 0), .int (iI (z)), .int (iI (d))] = [(0, .ref (am 0)), (1, .int (iI (z))), (2, .int (iI (d)))] from by first | rfl | simp [lv_args, cat_rf, cat_i, cat_l, cat_r]]
  obtain ⟨t_3_0, t_3_1, t_3_2, t_3_3, t_3_4, t_3_5, t_3_6, t_3_7, t_3_8, t_3_9, t_3_10, t_3_11⟩ := hI.ins (i := z) hz.1 hz.2
  obtain ⟨hp1, hp2, hp3⟩ := pP_b hI hz
  have hp4 := mul_rng hp1 hd (by decide)
  refine j_aload_n X dX4_errorAt_0 (q := 1) rfl 0 rfl ?_
  refine j_get X (v := .ref (am 15)) fl_X4_44 hM.obj rfl dX4_errorAt_1 (q := 4) rfl ?_
  refine j_iload_n X dX4_errorAt_4 (q := 5) rfl 1 rfl ?_
  refine jm_iald X hM 15 (by decide) rfl (by omega) (by show _ < (12 : Int); omega) dX4_errorAt_5 (q := 6) rfl ?_
  refine j_if_ne X (tgt := 17) dX4_errorAt_6 (by decide) (q := 9) rfl (by omega) (fun c_6 => ?_) (fun c_6 => ?_)
  · skip
    refine j_aload_n X dX4_errorAt_17 (q := 18) rfl 0 rfl ?_
    refine j_iload_n X dX4_errorAt_18 (q := 19) rfl 1 rfl ?_
    refine j_callV X (As := [.int (iI (z))]) (st := []) hM.obj rfl (c_X4_products hlt hM hI z hz) sv_X4_124 (by decide) rfl (by first | decide | exact Nat.le_of_ble_eq_true rfl | simp [cat_rf, cat_i, cat_l, cat_r]) dX4_errorAt_19 (by decide) (fun _ _ h => h.elim) ?_
    rintro v9 w9 ⟨rfl, rfl⟩
    refine j_st (st := [.long (iL (pP T z))]) ?_
    refine j_iload_n X dX4_errorAt_22 (q := 23) rfl 2 rfl ?_
    refine j_i2l X (by omega) dX4_errorAt_23 (q := 24) rfl ?_
    refine j_lmul X dX4_errorAt_24 (q := 25) rfl ?_
    refine j_lstore_n X (i := 3) dX4_errorAt_25 rfl (by decide) (q := 26) rfl (lv' := [(3, .long (iL ((pP T z) * d))), (0, .ref (am 0)), (1, .int (iI (z))), (2, .int (iI (d)))]) (by first | rfl | simp [cat_rf, cat_i, cat_l, cat_r]) ?_
    refine j_aload_n X dX4_errorAt_26 (q := 27) rfl 1 rfl ?_
    refine j_iload_n X dX4_errorAt_27 (q := 28) rfl 2 rfl ?_
    refine j_callV X (As := [.int (iI (z))]) (st := []) hM.obj rfl (c_X4_squares hlt hM hI z hz) sv_X4_128 (by decide) rfl (by first | decide | exact Nat.le_of_ble_eq_true rfl | simp [cat_rf, cat_i, cat_l, cat_r]) dX4_errorAt_28 (by decide) (fun _ _ h => h.elim) ?_
    rintro v9 w9 ⟨rfl, rfl⟩
    refine j_st (st := [.long (iL (pQ T z))]) ?_
    have hp5 : 1 ≤ pQ T z := by omega
    have hp6 := tmod_neg (x := pP T z * d) hp5
    have hp7 : -9223372036854775808 ≤ (pP T z * d).tmod (pQ T z) ∧ (pP T z * d).tmod (pQ T z) ≤ 9223372036854775807 := by
      have a1 := Int.natAbs_tmod (pP T z * d) (pQ T z)
      have a2 := Nat.mod_le (pP T z * d).natAbs (pQ T z).natAbs
      omega
    refine j_lstore X (i := 5) dX4_errorAt_31 (by decide) (q := 33) rfl (lv' := [(5, .long (iL (pQ T z))), (3, .long (iL ((pP T z) * d))), (0, .ref (am 0)), (1, .int (iI (z))), (2, .int (iI (d)))]) (by first | rfl | simp [cat_rf, cat_i, cat_l, cat_r]) ?_
    refine j_lload_n X dX4_errorAt_33 (q := 34) rfl 1 rfl ?_
    refine j_lload X dX4_errorAt_34 (q := 36) rfl 0 rfl ?_
    refine j_ldiv X (by omega) (by omega) dX4_errorAt_36 (q := 37) rfl ?_
    refine j_lstore X (i := 7) dX4_errorAt_37 (by decide) (q := 39) rfl (lv' := [(7, .long (iL (Int.tdiv ((pP T z) * d) (pQ T z)))), (5, .long (iL (pQ T z))), (3, .long (iL ((pP T z) * d))), (0, .ref (am 0)), (1, .int (iI (z))), (2, .int (iI (d)))]) (by first | rfl | simp [cat_rf, cat_i, cat_l, cat_r]) ?_
    refine j_aload_n X dX4_errorAt_39 (q := 40) rfl 3 rfl ?_
    refine j_get X (v := .ref (am 12)) fl_X4_34 hM.obj rfl dX4_errorAt_40 (q := 43) rfl ?_
    refine j_iload_n X dX4_errorAt_43 (q := 44) rfl 4 rfl ?_
    refine jm_iald X hM 12 (by decide) rfl (by omega) (by show _ < (12 : Int); omega) dX4_errorAt_44 (q := 45) rfl ?_
    refine j_i2l X (by omega) dX4_errorAt_45 (q := 46) rfl ?_
    refine j_lload_n X dX4_errorAt_46 (q := 47) rfl 2 rfl ?_
    refine j_lload X dX4_errorAt_47 (q := 49) rfl 1 rfl ?_
    refine j_lrem X (by omega) (by omega) dX4_errorAt_49 (q := 50) rfl ?_
    refine j_lconst X (a := 0) (by decide +kernel) dX4_errorAt_50 (q := 51) rfl ?_
    refine j_lcmp X (by omega) (by omega) dX4_errorAt_51 (q := 52) rfl ?_
    refine j_if_ge X (tgt := 62) dX4_errorAt_52 (by decide) (q := 55) rfl (cmpI_r _ _) (fun c_52 => ?_) (fun c_52 => ?_)
    · skip
      refine j_lload X dX4_errorAt_62 (q := 64) rfl 0 rfl ?_
      refine j_ladd X dX4_errorAt_64 (q := 65) rfl ?_
      exact j_lret X rfl dX4_errorAt_65 (⟨by rw [errM, if_neg (by omega), hp6, if_neg (Int.not_lt.mpr (cmpI_ge.mp c_52))], rfl⟩) (by decide) (by decide)
    · skip
      refine j_lload X dX4_errorAt_55 (q := 57) rfl 0 rfl ?_
      refine j_lconst X (a := 1) (by decide +kernel) dX4_errorAt_57 (q := 58) rfl ?_
      refine j_lsub X dX4_errorAt_58 (q := 59) rfl ?_
      refine j_goto X (tgt := 64) dX4_errorAt_59 (by decide) ?_
      refine j_ladd X dX4_errorAt_64 (q := 65) rfl ?_
      exact j_lret X rfl dX4_errorAt_65 (⟨by rw [errM, if_neg (by omega), hp6, if_pos (cmpI_lt.mp c_52)], rfl⟩) (by decide) (by decide)
  · skip
    refine j_aload_n X dX4_errorAt_9 (q := 10) rfl 0 rfl ?_
    refine j_get X (v := .ref (am 12)) fl_X4_34 hM.obj rfl dX4_errorAt_10 (q := 13) rfl ?_
    refine j_iload_n X dX4_errorAt_13 (q := 14) rfl 1 rfl ?_
    refine jm_iald X hM 12 (by decide) rfl (by omega) (by show _ < (12 : Int); omega) dX4_errorAt_14 (q := 15) rfl ?_
    refine j_i2l X (by omega) dX4_errorAt_15 (q := 16) rfl ?_
    exact j_lret X rfl dX4_errorAt_16 (⟨by rw [errM, if_pos (by omega)], rfl⟩) (by decide) (by decide)

set_option maxRecDepth 100000 in
set_option maxHeartbeats 4000000 in
theorem c_X4_slope {l : Launch} (hlt : l.stackTraces = false) {D : va_G} {ca : Nat → ClassId} {base : Nat} {am : Nat → Nat} {th : Int} {n nm : Int} {T : St} {w : Wd} (hM : MW base ca am th T w) (hI : MI n nm T) (z : Int) (hz : -2147483648 ≤ z ∧ z ≤ 2147483647) : CT l D ca base yX4_slope cX4_slope 2 (some .double) 3 0 0 [.ref (am 0), .int (iI (z))] w (fun v w' => v = some (.double (if 0 ≤ z ∧ z < n then slP (pP T z) (pQ T z) else FP.dconst0)) ∧ MW base ca am (if 0 ≤ z ∧ z < n then 0 else 1) T w' ∧ Fr 1 w w') (fun _ _ => False) := by
  obtain ⟨hn, hnm, e2, e18, h1t, h3t⟩ := hI.top
  refine CT.mk hlt (by decide +kernel) (by first | exact Nat.le_of_ble_eq_true rfl | simp [lg_sl, cat_rf, cat_i, cat_l, cat_r]) ?_
  intro p e s m args below meth c X htab
  rw [show lv_args 0 [.ref (am 0), .int (iI (z))] = [(0, .ref (am 0)), (1, .int (iI (z)))] from by first | rfl | simp [lv_args, cat_rf, cat_i, cat_l, cat_r]]
  refine j_aload_n X dX4_slope_0 (q := 1) rfl 0 rfl ?_
  refine j_iload_n X dX4_slope_1 (q := 2) rfl 1 rfl ?_
  refine j_callV X (As := [.int (iI (z))]) (st := []) hM.obj rfl (c_X4_isAsked hlt hM hI z hz) sv_X4_121 (by decide) rfl (by first | decide | exact Nat.le_of_ble_eq_true rfl | simp [cat_rf, cat_i, cat_l, cat_r]) dX4_slope_2 (by decide) (fun _ _ h => h.elim) ?_
  rintro v9 w9 ⟨rfl, hM9, hF9⟩
  refine j_st (st := [.int (iI (tf (0 ≤ z ∧ z < n)))]) ?_
  have hb9 := tf_b (0 ≤ z ∧ z < n)
  refine j_if_eq X (tgt := 17) dX4_slope_5 (by decide) (q := 8) rfl (by omega) (fun c_5 => ?_) (fun c_5 => ?_)
  · skip
    have k1 : ¬ (0 ≤ z ∧ z < n) := tf_0 c_5
    rw [if_neg k1] at hM9
    refine j_dconst0 X dX4_slope_17 (q := 18) rfl ?_
    exact j_dret X rfl dX4_slope_18 (⟨by rw [if_neg k1], by rw [if_neg k1]; exact hM9, hF9⟩) (by decide) (by decide)
  · skip
    have k1 : 0 ≤ z ∧ z < n := tf_1 c_5
    rw [if_pos k1] at hM9
    obtain ⟨t_4_0, t_4_1, t_4_2, t_4_3, t_4_4, t_4_5, t_4_6, t_4_7, t_4_8, t_4_9, t_4_10, t_4_11⟩ := hI.ins (i := z) k1.1 k1.2
    refine j_aload_n X dX4_slope_8 (q := 9) rfl 0 rfl ?_
    refine j_get X (v := .ref (am 15)) fl_X4_44 hM9.obj rfl dX4_slope_9 (q := 12) rfl ?_
    refine j_iload_n X dX4_slope_12 (q := 13) rfl 1 rfl ?_
    refine jm_iald X hM9 15 (by decide) rfl (by omega) (by show _ < (12 : Int); omega) dX4_slope_13 (q := 14) rfl ?_
    refine j_if_ne X (tgt := 19) dX4_slope_14 (by decide) (q := 17) rfl (by omega) (fun c_14 => ?_) (fun c_14 => ?_)
    · skip
      obtain ⟨hp1, hp2, hp3⟩ := pP_b hI k1
      refine j_aload_n X dX4_slope_19 (q := 20) rfl 0 rfl ?_
      refine j_iload_n X dX4_slope_20 (q := 21) rfl 1 rfl ?_
      refine j_callV X (As := [.int (iI (z))]) (st := []) hM9.obj rfl (c_X4_products hlt hM9 hI z k1) sv_X4_124 (by decide) rfl (by first | decide | exact Nat.le_of_ble_eq_true rfl | simp [cat_rf, cat_i, cat_l, cat_r]) dX4_slope_21 (by decide) (fun _ _ h => h.elim) ?_
      rintro v9 w9 ⟨rfl, rfl⟩
      refine j_st (st := [.long (iL (pP T z))]) ?_
      refine j_l2d X dX4_slope_24 (q := 25) rfl ?_
      refine j_aload_n X dX4_slope_25 (q := 26) rfl 0 rfl ?_
      refine j_iload_n X dX4_slope_26 (q := 27) rfl 1 rfl ?_
      refine j_callV X (As := [.int (iI (z))]) (st := [.double (FP.l2d (iL (pP T z)))]) hM9.obj rfl (c_X4_squares hlt hM9 hI z k1) sv_X4_128 (by decide) rfl (by first | decide | exact Nat.le_of_ble_eq_true rfl | simp [cat_rf, cat_i, cat_l, cat_r]) dX4_slope_27 (by decide) (fun _ _ h => h.elim) ?_
      rintro v9 w9 ⟨rfl, rfl⟩
      refine j_st (st := [.long (iL (pQ T z)), .double (FP.l2d (iL (pP T z)))]) ?_
      refine j_l2d X dX4_slope_30 (q := 31) rfl ?_
      refine j_ddiv X (slope_n64 hp1 (by omega)) dX4_slope_31 (q := 32) rfl ?_
      exact j_dret X rfl dX4_slope_32 (⟨by rw [if_pos k1, slP, if_neg (by omega)], by rw [if_pos k1]; exact hM9, hF9⟩) (by decide) (by decide)
    · skip
      obtain ⟨hp1, hp2, hp3⟩ := pP_b hI k1
      refine j_dconst0 X dX4_slope_17 (q := 18) rfl ?_
      exact j_dret X rfl dX4_slope_18 (⟨by rw [if_pos k1, slP, if_pos (by omega)], by rw [if_pos k1]; exact hM9, hF9⟩) (by decide) (by decide)

def exC (n : Int) (T : St) (z d : Int) : Int := if 0 ≤ z ∧ z < n then (if 0 ≤ d ∧ d ≤ 9999 then (if 0 < T 8 z then 0 else 3) else 2) else 1
set_option maxRecDepth 100000 in
set_option maxHeartbeats 4000000 in
theorem c_X4_expected {l : Launch} (hlt : l.stackTraces = false) {D : va_G} {ca : Nat → ClassId} {base : Nat} {am : Nat → Nat} {th : Int} {n nm : Int} {T : St} {w : Wd} (hM : MW base ca am th T w) (hI : MI n nm T) (z : Int) (hz : -2147483648 ≤ z ∧ z ≤ 2147483647) (d : Int) (hd : -2147483648 ≤ d ∧ d ≤ 2147483647) : CT l D ca base yX4_expected cX4_expected 4 (some .long) 3 0 0 [.ref (am 0), .int (iI (z)), .int (iI (d))] w (fun v w' => v = some (.long (iL (if exC n T z d = 0 then errM T z d else 0))) ∧ MW base ca am (exC n T z d) T w' ∧ Fr 1 w w') (fun _ _ => False) := by
  obtain ⟨hn, hnm, e2, e18, h1t, h3t⟩ := hI.top
  refine CT.mk hlt (by decide +kernel) (by first | exact Nat.le_of_ble_eq_true rfl | simp [lg_sl, cat_rf, cat_i, cat_l, cat_r]) ?_
  intro p e s m args below meth c X htab
  rw [show lv_args 0 [.ref (am 0), .int (iI (z)), .int (iI (d))] = [(0, .ref (am 0)), (1, .int (iI (z))), (2, .int (iI (d)))] from by first | rfl | simp [lv_args, cat_rf, cat_i, cat_l, cat_r]]
  refine j_aload_n X dX4_expected_0 (q := 1) rfl 0 rfl ?_
  refine j_iload_n X dX4_expected_1 (q := 2) rfl 1 rfl ?_
  refine j_callV X (As := [.int (iI (z))]) (st := []) hM.obj rfl (c_X4_isInstrument hlt hM hI z hz) sv_X4_69 (by decide) rfl (by first | decide | exact Nat.le_of_ble_eq_true rfl | simp [cat_rf, cat_i, cat_l, cat_r]) dX4_expected_2 (by decide) (fun _ _ h => h.elim) ?_
  rintro v9 w9 ⟨rfl, rfl⟩
  refine j_st (st := [.int (iI (tf (0 ≤ z ∧ z < n)))]) ?_
  have hb := tf_b (0 ≤ z ∧ z < n)
  refine j_istore_n X (i := 3) dX4_expected_5 rfl (by decide) (q := 6) rfl (lv' := [(3, .int (iI (tf (0 ≤ z ∧ z < n)))), (0, .ref (am 0)), (1, .int (iI (z))), (2, .int (iI (d)))]) (by first | rfl | simp [cat_rf, cat_i, cat_l, cat_r]) ?_
  refine j_aload_n X dX4_expected_6 (q := 7) rfl 1 rfl ?_
  refine j_iload_n X dX4_expected_7 (q := 8) rfl 0 rfl ?_
  refine j_if_ne X (tgt := 15) dX4_expected_8 (by decide) (q := 11) rfl (by omega) (fun c_8 => ?_) (fun c_8 => ?_)
  · skip
    have k1 : 0 ≤ z ∧ z < n := tf_1 c_8
    obtain ⟨t_5_0, t_5_1, t_5_2, t_5_3, t_5_4, t_5_5, t_5_6, t_5_7, t_5_8, t_5_9, t_5_10, t_5_11⟩ := hI.ins (i := z) k1.1 k1.2
    refine j_iload_n X dX4_expected_15 (q := 16) rfl 3 rfl ?_
    refine j_if_lt X (tgt := 26) dX4_expected_16 (by decide) (q := 19) rfl (by omega) (fun c_16 => ?_) (fun c_16 => ?_)
    · skip
      refine j_iconst X (a := 2) dX4_expected_26 (q := 27) rfl ?_
      refine j_goto X (tgt := 43) dX4_expected_27 (by decide) ?_
      refine j_callV X (As := [.int (iI (2))]) (st := []) hM.obj rfl (c_X4_holds hlt hM hI (2) (by decide)) sv_X4_73 (by decide) rfl (by first | decide | exact Nat.le_of_ble_eq_true rfl | simp [cat_rf, cat_i, cat_l, cat_r]) dX4_expected_43 (by decide) (fun _ _ h => h.elim) ?_
      rintro v9 w9 ⟨rfl, hM9, hF9⟩
      refine j_st (st := [.int (iI (tf (((2) : Int) = 0)))]) ?_
      have hx : exC n T z d = 2 := by unfold exC; (repeat' split) <;> omega
      rw [← hx] at hM9
      have hb9 := tf_b (((2) : Int) = 0)
      refine j_if_ne X (tgt := 51) dX4_expected_46 (by decide) (q := 49) rfl (by omega) (fun c_46 => ?_) (fun c_46 => ?_)
      · skip
        exact absurd c_46 (by decide)
      · skip
        refine j_lconst X (a := 0) (by decide +kernel) dX4_expected_49 (q := 50) rfl ?_
        exact j_lret X rfl dX4_expected_50 (⟨by rw [hx]; rfl, hM9, hF9⟩) (by decide) (by decide)
    · skip
      refine j_iload_n X dX4_expected_19 (q := 20) rfl 3 rfl ?_
      refine j_sipush X (a := 9999) (by decide +kernel) dX4_expected_20 (q := 23) rfl ?_
      refine j_icmp_le X (tgt := 30) dX4_expected_23 (by decide) (q := 26) rfl (by omega) (by omega) (fun c_23 => ?_) (fun c_23 => ?_)
      · skip
        refine j_aload_n X dX4_expected_30 (q := 31) rfl 1 rfl ?_
        refine j_iload_n X dX4_expected_31 (q := 32) rfl 2 rfl ?_
        refine j_callV X (As := [.int (iI (z))]) (st := [.ref (am 0)]) hM.obj rfl (c_X4_isCalibrated hlt hM hI z k1) sv_X4_83 (by decide) rfl (by first | decide | exact Nat.le_of_ble_eq_true rfl | simp [cat_rf, cat_i, cat_l, cat_r]) dX4_expected_32 (by decide) (fun _ _ h => h.elim) ?_
        rintro v9 w9 ⟨rfl, rfl⟩
        refine j_st (st := [.int (iI (tf (0 < T 8 z))), .ref (am 0)]) ?_
        have hb8 := tf_b (0 < T 8 z)
        refine j_if_eq X (tgt := 42) dX4_expected_35 (by decide) (q := 38) rfl (by omega) (fun c_35 => ?_) (fun c_35 => ?_)
        · skip
          have k8 := tf_0 c_35
          refine j_iconst X (a := 3) dX4_expected_42 (q := 43) rfl ?_
          refine j_callV X (As := [.int (iI (3))]) (st := []) hM.obj rfl (c_X4_holds hlt hM hI (3) (by decide)) sv_X4_73 (by decide) rfl (by first | decide | exact Nat.le_of_ble_eq_true rfl | simp [cat_rf, cat_i, cat_l, cat_r]) dX4_expected_43 (by decide) (fun _ _ h => h.elim) ?_
          rintro v9 w9 ⟨rfl, hM9, hF9⟩
          refine j_st (st := [.int (iI (tf (((3) : Int) = 0)))]) ?_
          have hx : exC n T z d = 3 := by unfold exC; (repeat' split) <;> omega
          rw [← hx] at hM9
          have hb9 := tf_b (((3) : Int) = 0)
          refine j_if_ne X (tgt := 51) dX4_expected_46 (by decide) (q := 49) rfl (by omega) (fun c_46 => ?_) (fun c_46 => ?_)
          · skip
            exact absurd c_46 (by decide)
          · skip
            refine j_lconst X (a := 0) (by decide +kernel) dX4_expected_49 (q := 50) rfl ?_
            exact j_lret X rfl dX4_expected_50 (⟨by rw [hx]; rfl, hM9, hF9⟩) (by decide) (by decide)
        · skip
          have k8 := tf_1 c_35
          refine j_iconst X (a := 0) dX4_expected_38 (q := 39) rfl ?_
          refine j_goto X (tgt := 43) dX4_expected_39 (by decide) ?_
          refine j_callV X (As := [.int (iI (0))]) (st := []) hM.obj rfl (c_X4_holds hlt hM hI (0) (by decide)) sv_X4_73 (by decide) rfl (by first | decide | exact Nat.le_of_ble_eq_true rfl | simp [cat_rf, cat_i, cat_l, cat_r]) dX4_expected_43 (by decide) (fun _ _ h => h.elim) ?_
          rintro v9 w9 ⟨rfl, hM9, hF9⟩
          refine j_st (st := [.int (iI (tf (((0) : Int) = 0)))]) ?_
          have hx : exC n T z d = 0 := by unfold exC; (repeat' split) <;> omega
          rw [← hx] at hM9
          have hb9 := tf_b (((0) : Int) = 0)
          refine j_if_ne X (tgt := 51) dX4_expected_46 (by decide) (q := 49) rfl (by omega) (fun c_46 => ?_) (fun c_46 => ?_)
          · skip
            refine j_aload_n X dX4_expected_51 (q := 52) rfl 1 rfl ?_
            refine j_iload_n X dX4_expected_52 (q := 53) rfl 2 rfl ?_
            refine j_iload_n X dX4_expected_53 (q := 54) rfl 3 rfl ?_
            refine j_callV X (As := [.int (iI (z)), .int (iI (d))]) (st := []) hM9.obj rfl (c_X4_errorAt hlt hM9 hI z k1 d (by omega)) sv_X4_131 (by decide) rfl (by first | decide | exact Nat.le_of_ble_eq_true rfl | simp [cat_rf, cat_i, cat_l, cat_r]) dX4_expected_54 (by decide) (fun _ _ h => h.elim) ?_
            rintro v9 w9 ⟨rfl, rfl⟩
            refine j_st (st := [.long (iL (errM T z d))]) ?_
            exact j_lret X rfl dX4_expected_57 (⟨by rw [hx]; rfl, hM9, hF9⟩) (by decide) (by decide)
          · skip
            exact absurd c_46 (by decide)
      · skip
        refine j_iconst X (a := 2) dX4_expected_26 (q := 27) rfl ?_
        refine j_goto X (tgt := 43) dX4_expected_27 (by decide) ?_
        refine j_callV X (As := [.int (iI (2))]) (st := []) hM.obj rfl (c_X4_holds hlt hM hI (2) (by decide)) sv_X4_73 (by decide) rfl (by first | decide | exact Nat.le_of_ble_eq_true rfl | simp [cat_rf, cat_i, cat_l, cat_r]) dX4_expected_43 (by decide) (fun _ _ h => h.elim) ?_
        rintro v9 w9 ⟨rfl, hM9, hF9⟩
        refine j_st (st := [.int (iI (tf (((2) : Int) = 0)))]) ?_
        have hx : exC n T z d = 2 := by unfold exC; (repeat' split) <;> omega
        rw [← hx] at hM9
        have hb9 := tf_b (((2) : Int) = 0)
        refine j_if_ne X (tgt := 51) dX4_expected_46 (by decide) (q := 49) rfl (by omega) (fun c_46 => ?_) (fun c_46 => ?_)
        · skip
          exact absurd c_46 (by decide)
        · skip
          refine j_lconst X (a := 0) (by decide +kernel) dX4_expected_49 (q := 50) rfl ?_
          exact j_lret X rfl dX4_expected_50 (⟨by rw [hx]; rfl, hM9, hF9⟩) (by decide) (by decide)
  · skip
    have k1 : ¬ (0 ≤ z ∧ z < n) := tf_0 c_8
    refine j_iconst X (a := 1) dX4_expected_11 (q := 12) rfl ?_
    refine j_goto X (tgt := 43) dX4_expected_12 (by decide) ?_
    refine j_callV X (As := [.int (iI (1))]) (st := []) hM.obj rfl (c_X4_holds hlt hM hI (1) (by decide)) sv_X4_73 (by decide) rfl (by first | decide | exact Nat.le_of_ble_eq_true rfl | simp [cat_rf, cat_i, cat_l, cat_r]) dX4_expected_43 (by decide) (fun _ _ h => h.elim) ?_
    rintro v9 w9 ⟨rfl, hM9, hF9⟩
    refine j_st (st := [.int (iI (tf (((1) : Int) = 0)))]) ?_
    have hx : exC n T z d = 1 := by unfold exC; (repeat' split) <;> omega
    rw [← hx] at hM9
    have hb9 := tf_b (((1) : Int) = 0)
    refine j_if_ne X (tgt := 51) dX4_expected_46 (by decide) (q := 49) rfl (by omega) (fun c_46 => ?_) (fun c_46 => ?_)
    · skip
      exact absurd c_46 (by decide)
    · skip
      refine j_lconst X (a := 0) (by decide +kernel) dX4_expected_49 (q := 50) rfl ?_
      exact j_lret X rfl dX4_expected_50 (⟨by rw [hx]; rfl, hM9, hF9⟩) (by decide) (by decide)

set_option maxRecDepth 100000 in
set_option maxHeartbeats 4000000 in
theorem c_X4_driftsOut {l : Launch} (hlt : l.stackTraces = false) {D : va_G} {ca : Nat → ClassId} {base : Nat} {am : Nat → Nat} {th : Int} {n nm : Int} {T : St} {w : Wd} (hM : MW base ca am th T w) (hI : MI n nm T) (z : Int) (hz : -2147483648 ≤ z ∧ z ≤ 2147483647) : CT l D ca base yX4_driftsOut cX4_driftsOut 5 (some .int) 3 0 0 [.ref (am 0), .int (iI (z))] w (fun v w' => v = some (.int (iI (if 0 ≤ z ∧ z < n then (if 0 < T 8 z then drF (oM T z) 10000 0 else -1) else -1))) ∧ MW base ca am (if 0 ≤ z ∧ z < n then 0 else 1) T w' ∧ Fr 1 w w') (fun _ _ => False) := by
  obtain ⟨hn, hnm, e2, e18, h1t, h3t⟩ := hI.top
  refine CT.mk hlt (by decide +kernel) (by first | exact Nat.le_of_ble_eq_true rfl | simp [lg_sl, cat_rf, cat_i, cat_l, cat_r]) ?_
  intro p e s m args below meth c X htab
  rw [show lv_args 0 [.ref (am 0), .int (iI (z))] = [(0, .ref (am 0)), (1, .int (iI (z)))] from by first | rfl | simp [lv_args, cat_rf, cat_i, cat_l, cat_r]]
  refine j_aload_n X dX4_driftsOut_0 (q := 1) rfl 0 rfl ?_
  refine j_iload_n X dX4_driftsOut_1 (q := 2) rfl 1 rfl ?_
  refine j_callV X (As := [.int (iI (z))]) (st := []) hM.obj rfl (c_X4_isAsked hlt hM hI z hz) sv_X4_121 (by decide) rfl (by first | decide | exact Nat.le_of_ble_eq_true rfl | simp [cat_rf, cat_i, cat_l, cat_r]) dX4_driftsOut_2 (by decide) (fun _ _ h => h.elim) ?_
  rintro v9 w9 ⟨rfl, hM9, hF9⟩
  refine j_st (st := [.int (iI (tf (0 ≤ z ∧ z < n)))]) ?_
  have hb9 := tf_b (0 ≤ z ∧ z < n)
  refine j_if_eq X (tgt := 16) dX4_driftsOut_5 (by decide) (q := 8) rfl (by omega) (fun c_5 => ?_) (fun c_5 => ?_)
  · skip
    have k1 : ¬ (0 ≤ z ∧ z < n) := tf_0 c_5
    rw [if_neg k1] at hM9
    refine j_iconst X (a := -1) dX4_driftsOut_16 (q := 17) rfl ?_
    exact j_iret X rfl dX4_driftsOut_17 (⟨by rw [if_neg k1], by rw [if_neg k1]; exact hM9, hF9⟩) (by decide) (by decide)
  · skip
    have k1 : 0 ≤ z ∧ z < n := tf_1 c_5
    rw [if_pos k1] at hM9
    obtain ⟨t_6_0, t_6_1, t_6_2, t_6_3, t_6_4, t_6_5, t_6_6, t_6_7, t_6_8, t_6_9, t_6_10, t_6_11⟩ := hI.ins (i := z) k1.1 k1.2
    refine j_aload_n X dX4_driftsOut_8 (q := 9) rfl 0 rfl ?_
    refine j_iload_n X dX4_driftsOut_9 (q := 10) rfl 1 rfl ?_
    refine j_callV X (As := [.int (iI (z))]) (st := []) hM9.obj rfl (c_X4_isCalibrated hlt hM9 hI z k1) sv_X4_83 (by decide) rfl (by first | decide | exact Nat.le_of_ble_eq_true rfl | simp [cat_rf, cat_i, cat_l, cat_r]) dX4_driftsOut_10 (by decide) (fun _ _ h => h.elim) ?_
    rintro v9 w9 ⟨rfl, rfl⟩
    refine j_st (st := [.int (iI (tf (0 < T 8 z)))]) ?_
    have hb8 := tf_b (0 < T 8 z)
    refine j_if_ne X (tgt := 18) dX4_driftsOut_13 (by decide) (q := 16) rfl (by omega) (fun c_13 => ?_) (fun c_13 => ?_)
    · skip
      have k8 := tf_1 c_13
      refine j_iconst X (a := 0) dX4_driftsOut_18 (q := 19) rfl ?_
      refine j_istore_n X (i := 2) dX4_driftsOut_19 rfl (by decide) (q := 20) rfl (lv' := [(2, .int (iI (0))), (0, .ref (am 0)), (1, .int (iI (z)))]) (by first | rfl | simp [cat_rf, cat_i, cat_l, cat_r]) ?_
      have loop : ∀ (kk : Nat) (d : Int), (0 ≤ d ∧ d + kk = 10000) → drF (oM T z) 10000 0 = drF (oM T z) kk d → J p l e (Rm 3 0 0) s m args below meth c (vx_MQ below (Qn D base (fun v w' => v = some (.int (iI (if 0 ≤ z ∧ z < n then (if 0 < T 8 z then drF (oM T z) 10000 0 else -1) else -1))) ∧ MW base ca am (if 0 ≤ z ∧ z < n then 0 else 1) T w' ∧ Fr 1 w w')) (Xn D base (fun _ _ => False)) args s 0 0 (fun q => base ≤ q)) D base 5 0 0 20 [(0, .ref (am 0)), (1, .int (iI (z))), (2, .int (iI (d)))] [] w9 := by
        intro kk
        induction kk using Nat.strongRecOn with
        | ind kk ih =>
          intro d hd hv
          refine j_iload_n X dX4_driftsOut_20 (q := 21) rfl 2 rfl ?_
          refine j_sipush X (a := 9999) (by decide +kernel) dX4_driftsOut_21 (q := 24) rfl ?_
          refine j_icmp_gt X (tgt := 67) dX4_driftsOut_24 (by decide) (q := 27) rfl (by omega) (by omega) (fun c_24 => ?_) (fun c_24 => ?_)
          · skip
            refine j_iconst X (a := -1) dX4_driftsOut_67 (q := 68) rfl ?_
            exact j_iret X rfl dX4_driftsOut_68 (⟨by rw [if_pos k1, if_pos k8, hv, show kk = 0 by omega, drF], by rw [if_pos k1]; exact hM9, hF9⟩) (by decide) (by decide)
          · skip
            refine j_aload_n X dX4_driftsOut_27 (q := 28) rfl 0 rfl ?_
            refine j_iload_n X dX4_driftsOut_28 (q := 29) rfl 1 rfl ?_
            refine j_iload_n X dX4_driftsOut_29 (q := 30) rfl 2 rfl ?_
            refine j_callV X (As := [.int (iI (z)), .int (iI (d))]) (st := []) hM9.obj rfl (c_X4_errorAt hlt hM9 hI z k1 d (by omega)) sv_X4_131 (by decide) rfl (by first | decide | exact Nat.le_of_ble_eq_true rfl | simp [cat_rf, cat_i, cat_l, cat_r]) dX4_driftsOut_30 (by decide) (fun _ _ h => h.elim) ?_
            rintro v9 w9 ⟨rfl, rfl⟩
            refine j_st (st := [.long (iL (errM T z d))]) ?_
            have he := errM_b hI k1 (show 0 ≤ d ∧ d ≤ 9999 by omega)
            obtain ⟨j9, rfl⟩ : ∃ j, kk = j + 1 := ⟨kk - 1, by omega⟩
            refine j_lstore_n X (i := 3) dX4_driftsOut_33 rfl (by decide) (q := 34) rfl (lv' := [(3, .long (iL (errM T z d))), (0, .ref (am 0)), (1, .int (iI (z))), (2, .int (iI (d)))]) (by first | rfl | simp [cat_rf, cat_i, cat_l, cat_r]) ?_
            refine j_lload_n X dX4_driftsOut_34 (q := 35) rfl 0 rfl ?_
            refine j_aload_n X dX4_driftsOut_35 (q := 36) rfl 1 rfl ?_
            refine j_get X (v := .ref (am 5)) fl_X4_13 hM9.obj rfl dX4_driftsOut_36 (q := 39) rfl ?_
            refine j_iload_n X dX4_driftsOut_39 (q := 40) rfl 2 rfl ?_
            refine jm_iald X hM9 5 (by decide) rfl (by omega) (by show _ < (12 : Int); omega) dX4_driftsOut_40 (q := 41) rfl ?_
            refine j_i2l X (by omega) dX4_driftsOut_41 (q := 42) rfl ?_
            refine j_lcmp X (by omega) (by omega) dX4_driftsOut_42 (q := 43) rfl ?_
            refine j_if_gt X (tgt := 59) dX4_driftsOut_43 (by decide) (q := 46) rfl (cmpI_r _ _) (fun c_43 => ?_) (fun c_43 => ?_)
            · skip
              refine j_iload_n X dX4_driftsOut_59 (q := 60) rfl 3 rfl ?_
              exact j_iret X rfl dX4_driftsOut_60 (⟨by rw [if_pos k1, if_pos k8, hv, drF_e (o := oM T z) (d := d) (tf_t (by rw [iabs_gt]; have := cmpI_gt.mp c_43; omega))], by rw [if_pos k1]; exact hM9, hF9⟩) (by decide) (by decide)
            · skip
              refine j_lload_n X dX4_driftsOut_46 (q := 47) rfl 0 rfl ?_
              refine j_lneg X dX4_driftsOut_47 (q := 48) rfl ?_
              refine j_aload_n X dX4_driftsOut_48 (q := 49) rfl 1 rfl ?_
              refine j_get X (v := .ref (am 5)) fl_X4_13 hM9.obj rfl dX4_driftsOut_49 (q := 52) rfl ?_
              refine j_iload_n X dX4_driftsOut_52 (q := 53) rfl 2 rfl ?_
              refine jm_iald X hM9 5 (by decide) rfl (by omega) (by show _ < (12 : Int); omega) dX4_driftsOut_53 (q := 54) rfl ?_
              refine j_i2l X (by omega) dX4_driftsOut_54 (q := 55) rfl ?_
              refine j_lcmp X (by omega) (by omega) dX4_driftsOut_55 (q := 56) rfl ?_
              refine j_if_le X (tgt := 61) dX4_driftsOut_56 (by decide) (q := 59) rfl (cmpI_r _ _) (fun c_56 => ?_) (fun c_56 => ?_)
              · skip
                refine j_iinc X dX4_driftsOut_61 3 rfl (by decide) (q := 64) rfl (lv' := [(2, .int (iI (d + 1))), (3, .long (iL (errM T z d))), (0, .ref (am 0)), (1, .int (iI (z)))]) (by first | rfl | simp [cat_rf, cat_i, cat_l, cat_r]) ?_
                refine j_goto X (tgt := 20) dX4_driftsOut_64 (by decide) ?_
                exact j_lv (ih j9 (by omega) (d + 1) (by omega) (hv.trans (drF_s (fun q => by have q1 := tf_1 (show tf (T 5 z < iabs (errM T z d)) ≠ 0 from (show tf (T 5 z < iabs (errM T z d)) = 1 from q) ▸ by decide); rw [iabs_gt] at q1; have := cmpI_le.mp c_56; have := cmpI_le.mp c_43; omega)))) [2, 3, 0] rfl
              · skip
                refine j_iload_n X dX4_driftsOut_59 (q := 60) rfl 3 rfl ?_
                exact j_iret X rfl dX4_driftsOut_60 (⟨by rw [if_pos k1, if_pos k8, hv, drF_e (o := oM T z) (d := d) (tf_t (by rw [iabs_gt]; have := cmpI_gt.mp c_56; omega))], by rw [if_pos k1]; exact hM9, hF9⟩) (by decide) (by decide)
      exact j_lv (loop 10000 0 (by decide) rfl) [1, 2, 0] rfl
    · skip
      have k8 := tf_0 c_13
      refine j_iconst X (a := -1) dX4_driftsOut_16 (q := 17) rfl ?_
      exact j_iret X rfl dX4_driftsOut_17 (⟨by rw [if_pos k1, if_neg k8], by rw [if_pos k1]; exact hM9, hF9⟩) (by decide) (by decide)

set_option maxRecDepth 100000 in
set_option maxHeartbeats 4000000 in
theorem c_X4_root {l : Launch} (hlt : l.stackTraces = false) {D : va_G} {ca : Nat → ClassId} {base : Nat} {w : Wd} (x : Int) (hx : 0 ≤ x ∧ x ≤ 145000000) : CT l D ca base yX4_root cX4_root 2 (some .int) 0 0 0 [.int (iI (x))] w (fun v w' => v = some (.int (iI (rt x))) ∧ w = w') (fun _ _ => False) := by
  refine CT.mk hlt (by decide +kernel) (by first | exact Nat.le_of_ble_eq_true rfl | simp [lg_sl, cat_rf, cat_i, cat_l, cat_r]) ?_
  intro p e s m args below meth c X htab
  rw [show lv_args 0 [.int (iI (x))] = [(0, .int (iI (x)))] from by first | rfl | simp [lv_args, cat_rf, cat_i, cat_l, cat_r]]
  refine j_iconst X (a := 0) dX4_root_0 (q := 1) rfl ?_
  refine j_istore_n X (i := 1) dX4_root_1 rfl (by decide) (q := 2) rfl (lv' := [(1, .int (iI (0))), (0, .int (iI (x)))]) (by first | rfl | simp [cat_rf, cat_i, cat_l, cat_r]) ?_
  have loop : ∀ (kk : Nat) (r : Int), (0 ≤ r ∧ r ≤ 12042) → (12042 - r).toNat = kk → (∀ t, 0 ≤ t → t < r → t * t < x) → J p l e (Rm 0 0 0) s m args below meth c (vx_MQ below (Qn D base (fun v w' => v = some (.int (iI (rt x))) ∧ w = w')) (Xn D base (fun _ _ => False)) args s 0 0 (fun q => base ≤ q)) D base 2 0 0 2 [(0, .int (iI (x))), (1, .int (iI (r)))] [] w := by
    intro kk
    induction kk using Nat.strongRecOn with
    | ind kk ih =>
      intro r hr hkk hv
      refine j_iload_n X dX4_root_2 (q := 3) rfl 1 rfl ?_
      refine j_iload_n X dX4_root_3 (q := 4) rfl 1 rfl ?_
      have hq2 := sq_r hr
      refine j_imul X dX4_root_4 (q := 5) rfl ?_
      refine j_iload_n X dX4_root_5 (q := 6) rfl 0 rfl ?_
      refine j_icmp_ge X (tgt := 15) dX4_root_6 (by decide) (q := 9) rfl (by omega) (by omega) (fun c_6 => ?_) (fun c_6 => ?_)
      · skip
        refine j_iload_n X dX4_root_15 (q := 16) rfl 1 rfl ?_
        exact j_iret X rfl dX4_root_16 (⟨by rw [rt_of (x := x) (by omega) ⟨hr.1, c_6, hv⟩], rfl⟩) (by decide) (by decide)
      · skip
        refine j_iinc X dX4_root_9 1 rfl (by decide) (q := 12) rfl (lv' := [(1, .int (iI (r + 1))), (0, .int (iI (x)))]) (by first | rfl | simp [cat_rf, cat_i, cat_l, cat_r]) ?_
        refine j_goto X (tgt := 2) dX4_root_12 (by decide) ?_
        have h12 : r < 12042 := Int.not_le.mp fun q => by have := sq_lt (t := 12042) (by decide) q; omega
        exact j_lv (ih ((12042 - (r + 1)).toNat) (by omega) (r + 1) (by omega) rfl (fun t t0 t1 => by by_cases hq : t = r; exact hq ▸ c_6; exact hv t t0 (by omega))) [1, 0] rfl
  exact j_lv (loop _ 0 (by decide) rfl (fun t a b => by omega)) [1, 0] rfl
