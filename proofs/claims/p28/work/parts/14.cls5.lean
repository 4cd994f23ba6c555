theorem mul_rng {x d A B : Int} (hx : -A ≤ x ∧ x ≤ A) (hd : 0 ≤ d ∧ d ≤ B) (hA : 0 ≤ A) : -(A * B) ≤ x * d ∧ x * d ≤ A * B := by
  have h1 : x * d ≤ A * d := Int.mul_le_mul_of_nonneg_right hx.2 hd.1
  have h2 : -A * d ≤ x * d := Int.mul_le_mul_of_nonneg_right hx.1 hd.1
  have h3 : A * d ≤ A * B := Int.mul_le_mul_of_nonneg_left hd.2 hA
  rw [Int.neg_mul] at h2
  omega
theorem ediv_rng {x y : Int} (A : Int) (hx : -A ≤ x ∧ x ≤ A) (hy : 1 ≤ y) (hA : 0 ≤ A) : -A - 1 ≤ x / y ∧ x / y ≤ A := by
  have h1 := Int.mul_ediv_add_emod x y
  have h2 := Int.emod_nonneg x (show y ≠ 0 by omega)
  have h3 := Int.emod_lt_of_pos x (show 0 < y by omega)
  constructor
  · refine Int.not_lt.mp fun h => ?_
    have h4 : y * (x / y) ≤ y * (-A - 2) := Int.mul_le_mul_of_nonneg_left (by omega) (by omega)
    have h5 : y * (-A - 2) = -(y * A) - 2 * y := by rw [Int.mul_sub, Int.mul_neg, Int.mul_comm y 2]
    have h6 : A ≤ y * A := by have := Int.mul_le_mul_of_nonneg_right hy hA; omega
    omega
  · refine Int.not_lt.mp fun h => ?_
    have h4 : y * (A + 1) ≤ y * (x / y) := Int.mul_le_mul_of_nonneg_left (by omega) (by omega)
    have h5 : y * (A + 1) = y * A + y := by rw [Int.mul_add, Int.mul_one]
    have h6 : A ≤ y * A := by have := Int.mul_le_mul_of_nonneg_right hy hA; omega
    omega
def errS (S : St) (u j d : Int) : Int := if S 18 u ≤ 0 then S 22 j else S 22 j + S 17 u * d / S 18 u
theorem errS_b {n nc nm : Int} {S : St} (hI : IC n nc nm S) {u j d : Int} (hu : 0 ≤ u ∧ u < n) (hj : 0 ≤ j ∧ j < nc) (hd : 0 ≤ d ∧ d ≤ 9999) : -9000000000000000 ≤ errS S u j d ∧ errS S u j d ≤ 9000000000000000 := by
  obtain ⟨i0, i1, i2, i3, i4, i5, i6, i7, i8⟩ := hI.ins hu.1 hu.2
  obtain ⟨a0, a1, a2, -⟩ := hI.kal hj.1 hj.2
  unfold errS
  split
  · omega
  · have h1 := mul_rng i7 hd (by decide)
    have h2 := ediv_rng (x := S 17 u * d) (y := S 18 u) (900000000000 * 9999) h1 (by omega) (by decide)
    omega
/-- the least whole number whose square is not below x -/
def isRt (x r : Int) : Prop := 0 ≤ r ∧ x ≤ r * r ∧ ∀ t, 0 ≤ t → t < r → t * t < x
theorem isRt_one {x r r' : Int} (h : isRt x r) (h' : isRt x r') : r = r' := by
  rcases Int.lt_trichotomy r r' with c | c | c
  · have := h'.2.2 r h.1 c
    have := h.2.1
    omega
  · exact c
  · have := h.2.2 r' h'.1 c
    have := h'.2.1
    omega
def rtF (x : Int) : Nat → Int → Int
  | 0, r => r
  | k + 1, r => if r * r < x then rtF x k (r + 1) else r
def rt (x : Int) : Int := rtF x 20000 0
theorem rtF_is {x : Int} : ∀ (k : Nat) (r : Int), 0 ≤ r → x ≤ (r + k) * (r + k) → (∀ t, 0 ≤ t → t < r → t * t < x) → isRt x (rtF x k r)
  | 0, r, h0, h1, h2 => ⟨h0, by simpa [rtF] using h1, h2⟩
  | k + 1, r, h0, h1, h2 => by
    rw [rtF]
    split
    · next c =>
      refine rtF_is k (r + 1) (by omega) (by rw [show r + 1 + (k : Int) = r + ((k + 1 : Nat) : Int) by omega]; exact h1) fun t ht0 ht => ?_
      by_cases he : t = r
      · rw [he]; exact c
      · exact h2 t ht0 (by omega)
    · next c => exact ⟨h0, by omega, h2⟩
theorem rt_is {x : Int} (h : x ≤ 400000000) : isRt x (rt x) := rtF_is 20000 0 (by decide) (by omega) (fun t a b => by omega)
theorem rt_of {x r : Int} (h : x ≤ 400000000) (hr : isRt x r) : r = rt x := isRt_one hr (rt_is h)
theorem sq_lt {t r : Int} (h0 : 0 ≤ t) (h : t ≤ r) : t * t ≤ r * r := Int.mul_le_mul h h h0 (by omega)
theorem rt_le {x r : Int} (hx : x ≤ 400000000) (h0 : 0 ≤ r) (h : x ≤ r * r) : 0 ≤ rt x ∧ rt x ≤ r := by
  have := rt_is hx
  refine ⟨this.1, Int.not_lt.mp fun c => ?_⟩
  have := this.2.2 r h0 c
  omega
def unc (ref own : Int → Int) : Nat → Int → Int
  | 0, _ => 0
  | k + 1, u => if u < 0 then 0 else rt (own u * own u + unc ref own k (ref u) * unc ref own k (ref u))
theorem unc_n {ref own : Int → Int} {k : Nat} {u : Int} (h : u < 0) : unc ref own k u = 0 := by
  cases k with
  | zero => rfl
  | succ j => simp [unc, h]
theorem unc_s {ref own : Int → Int} {k : Nat} {u : Int} (h : 0 ≤ u) : unc ref own (k + 1) u = rt (own u * own u + unc ref own k (ref u) * unc ref own k (ref u)) := by rw [unc, if_neg (by omega)]
theorem sq_add {a b : Int} (ha : 0 ≤ a) (hb : 0 ≤ b) : a * a + b * b ≤ (a + b) * (a + b) := by
  have : 0 ≤ a * b := Int.mul_nonneg ha hb
  have e : (a + b) * (a + b) = a * a + b * b + 2 * (a * b) := by rw [Int.add_mul, Int.mul_add, Int.mul_add, Int.mul_comm b a]; omega
  omega
theorem sq_r {a A : Int} (h : 0 ≤ a ∧ a ≤ A) : 0 ≤ a * a ∧ a * a ≤ A * A := ⟨Int.mul_nonneg h.1 h.1, Int.mul_le_mul h.2 h.2 h.1 (by omega)⟩
theorem unc_b {ref own : Int → Int} {n : Int} (hr : ∀ i, 0 ≤ i → i < n → (-1 ≤ ref i ∧ ref i < n) ∧ (0 ≤ own i ∧ own i ≤ 999)) : ∀ (k : Nat) (u : Int), k ≤ 12 → -1 ≤ u → u < n → 0 ≤ unc ref own k u ∧ unc ref own k u ≤ 999 * k
  | 0, _, _, _, _ => by simp [unc]
  | k + 1, u, hk, h0, h1 => by
    by_cases hu : u < 0
    · rw [unc_n hu]; omega
    · obtain ⟨h2, h3⟩ := hr u (by omega) h1
      have h4 := unc_b hr k (ref u) (by omega) h2.1 h2.2
      rw [unc_s (by omega)]
      have h5 := sq_r h3
      have h6 := sq_r (A := 12000) (show 0 ≤ unc ref own k (ref u) ∧ unc ref own k (ref u) ≤ 12000 by omega)
      have h7 := sq_add h3.1 h4.1
      have h8 := rt_le (by omega) (by omega) h7
      omega
set_option maxRecDepth 100000 in
set_option maxHeartbeats 4000000 in
theorem c_X3_errorAfter {l : Launch} (hlt : l.stackTraces = false) {D : va_G} {ca : Nat → ClassId} {base : Nat} {ad : Nat → Int → Nat} {n nc nm : Int} {S : St} {w : Wd} (hC : CW base ca ad n nc nm S w) (hI : IC n nc nm S) (u j d : Int) (hu : 0 ≤ u ∧ u < n) (hj : 0 ≤ j ∧ j < nc) (hd : 0 ≤ d ∧ d ≤ 9999) : CT l D ca base yX3_errorAfter cX3_errorAfter 3 (some .long) 1 0 0 [va_rf (pt (ad 1) (u)), va_rf (pt (ad 2) (j)), .int (iI (d))] w (fun v w' => v = some (.long (iL (errS S u j d))) ∧ w = w') (fun _ _ => False) := by
  obtain ⟨hn, hnc, hnm, e3, e4, e5, h6, h7, h8⟩ := hI.top
  refine CT.mk hlt (by decide +kernel) (by first | exact Nat.le_of_ble_eq_true rfl | simp [lg_sl, cat_rf, cat_i, cat_l, cat_r]) ?_
  intro p e s m args below meth c X htab
  rw [show lv_args 0 [va_rf (pt (ad 1) (u)), va_rf (pt (ad 2) (j)), .int (iI (d))] = [(0, va_rf (pt (ad 1) (u))), (1, va_rf (pt (ad 2) (j))), (2, .int (iI (d)))] from by first | rfl | simp [lv_args, cat_rf, cat_i, cat_l, cat_r]]
  obtain ⟨f_1_0, f_1_1, f_1_2, f_1_3, f_1_4, f_1_5, f_1_6, f_1_7, f_1_8⟩ := hI.ins hu.1 hu.2
  obtain ⟨f_2_0, f_2_1, f_2_2, f_2_3, f_2_4, f_2_5, f_2_6, f_2_7, f_2_8, f_2_9⟩ := hI.kal hj.1 hj.2
  refine j_aloadq_n X dX3_errorAfter_0 (q := 1) rfl 0 rfl ?_
  refine j_getp X (v := .long (iL (S 18 u))) fl_X3_176 hu.1 (hC.ins hu.1 hu.2) rfl dX3_errorAfter_1 (q := 4) rfl ?_
  refine j_lconst X (a := 0) (by decide +kernel) dX3_errorAfter_4 (q := 5) rfl ?_
  refine j_lcmp X (by omega) (by omega) dX3_errorAfter_5 (q := 6) rfl ?_
  refine j_if_gt X (tgt := 15) dX3_errorAfter_6 (by decide) (q := 9) rfl (cmpI_r _ _) (fun c_6 => ?_) (fun c_6 => ?_)
  · skip
    have c_6b := cmpI_gt.mp c_6
    have hm9 := mul_rng (show -900000000000 ≤ S 17 u ∧ S 17 u ≤ 900000000000 by omega) hd (by decide)
    refine j_aloadq_n X dX3_errorAfter_15 (q := 16) rfl 1 rfl ?_
    refine j_getp X (v := .int (iI (S 22 j))) fl_X3_155 hj.1 (hC.kal hj.1 hj.2) rfl dX3_errorAfter_16 (q := 19) rfl ?_
    refine j_i2l X (by omega) dX3_errorAfter_19 (q := 20) rfl ?_
    refine j_aloadq_n X dX3_errorAfter_20 (q := 21) rfl 0 rfl ?_
    refine j_getp X (v := .long (iL (S 17 u))) fl_X3_172 hu.1 (hC.ins hu.1 hu.2) rfl dX3_errorAfter_21 (q := 24) rfl ?_
    refine j_iload_n X dX3_errorAfter_24 (q := 25) rfl 2 rfl ?_
    refine j_i2l X (by omega) dX3_errorAfter_25 (q := 26) rfl ?_
    refine j_lmul X dX3_errorAfter_26 (q := 27) rfl ?_
    refine j_aloadq_n X dX3_errorAfter_27 (q := 28) rfl 0 rfl ?_
    refine j_getp X (v := .long (iL (S 18 u))) fl_X3_176 hu.1 (hC.ins hu.1 hu.2) rfl dX3_errorAfter_28 (q := 31) rfl ?_
    refine j_callS X (As := [.long (iL ((S 17 u) * d)), .long (iL (S 18 u))]) (st := [.long (iL (S 22 j))])  (c_J9_floorDiv_f86c9 hlt (S 17 u * d) (S 18 u) (by omega) (by omega)) ss_X3_206 (by decide) rfl (by first | decide | exact Nat.le_of_ble_eq_true rfl | simp [cat_rf, cat_i, cat_l, cat_r]) dX3_errorAfter_31 (by decide) (fun _ _ h => h.elim) ?_
    rintro v9 w9 ⟨rfl, rfl⟩
    refine j_st (st := [.long (iL (S 17 u * d / S 18 u)), .long (iL (S 22 j))]) ?_
    refine j_ladd X dX3_errorAfter_34 (q := 35) rfl ?_
    exact j_lret X rfl dX3_errorAfter_35 (⟨by rw [errS, if_neg (by omega)], rfl⟩) (by decide) (by decide)
  · skip
    have c_6b := cmpI_le.mp c_6
    refine j_aloadq_n X dX3_errorAfter_9 (q := 10) rfl 1 rfl ?_
    refine j_getp X (v := .int (iI (S 22 j))) fl_X3_155 hj.1 (hC.kal hj.1 hj.2) rfl dX3_errorAfter_10 (q := 13) rfl ?_
    refine j_i2l X (by omega) dX3_errorAfter_13 (q := 14) rfl ?_
    exact j_lret X rfl dX3_errorAfter_14 (⟨by rw [errS, if_pos c_6b], rfl⟩) (by decide) (by decide)

set_option maxRecDepth 100000 in
set_option maxHeartbeats 4000000 in
theorem c_X3_isOutAfter {l : Launch} (hlt : l.stackTraces = false) {D : va_G} {ca : Nat → ClassId} {base : Nat} {ad : Nat → Int → Nat} {n nc nm : Int} {S : St} {w : Wd} (hC : CW base ca ad n nc nm S w) (hI : IC n nc nm S) (u j d : Int) (hu : 0 ≤ u ∧ u < n) (hj : 0 ≤ j ∧ j < nc) (hd : 0 ≤ d ∧ d ≤ 9999) : CT l D ca base yX3_isOutAfter cX3_isOutAfter 3 (some .boolean) 2 0 0 [va_rf (pt (ad 1) (u)), va_rf (pt (ad 2) (j)), .int (iI (d))] w (fun v w' => v = some (.int (iI (tf (S 11 u < iabs (errS S u j d))))) ∧ w = w') (fun _ _ => False) := by
  obtain ⟨hn, hnc, hnm, e3, e4, e5, h6, h7, h8⟩ := hI.top
  refine CT.mk hlt (by decide +kernel) (by first | exact Nat.le_of_ble_eq_true rfl | simp [lg_sl, cat_rf, cat_i, cat_l, cat_r]) ?_
  intro p e s m args below meth c X htab
  rw [show lv_args 0 [va_rf (pt (ad 1) (u)), va_rf (pt (ad 2) (j)), .int (iI (d))] = [(0, va_rf (pt (ad 1) (u))), (1, va_rf (pt (ad 2) (j))), (2, .int (iI (d)))] from by first | rfl | simp [lv_args, cat_rf, cat_i, cat_l, cat_r]]
  obtain ⟨f_3_0, f_3_1, f_3_2, f_3_3, f_3_4, f_3_5, f_3_6, f_3_7, f_3_8⟩ := hI.ins hu.1 hu.2
  have hb9 := errS_b hI hu hj hd
  have hb8 : 0 ≤ iabs (errS S u j d) ∧ iabs (errS S u j d) ≤ 9000000000000000 := by unfold iabs; split <;> omega
  refine j_aloadq_n X dX3_isOutAfter_0 (q := 1) rfl 0 rfl ?_
  refine j_aloadq_n X dX3_isOutAfter_1 (q := 2) rfl 1 rfl ?_
  refine j_iload_n X dX3_isOutAfter_2 (q := 3) rfl 2 rfl ?_
  refine j_callS X (As := [va_rf (pt (ad 1) (u)), va_rf (pt (ad 2) (j)), .int (iI (d))]) (st := [])  (c_X3_errorAfter hlt hC hI u j d hu hj hd) ss_X3_195 (by decide) rfl (by first | decide | exact Nat.le_of_ble_eq_true rfl | simp [cat_rf, cat_i, cat_l, cat_r]) dX3_isOutAfter_3 (by decide) (fun _ _ h => h.elim) ?_
  rintro v9 w9 ⟨rfl, rfl⟩
  refine j_st (st := [.long (iL (errS S u j d))]) ?_
  refine j_callS X (As := [.long (iL (errS S u j d))]) (st := [])  (c_J9_abs_067f4 hlt (errS S u j d) (by omega)) ss_X3_210 (by decide) rfl (by first | decide | exact Nat.le_of_ble_eq_true rfl | simp [cat_rf, cat_i, cat_l, cat_r]) dX3_isOutAfter_6 (by decide) (fun _ _ h => h.elim) ?_
  rintro v9 w9 ⟨rfl, rfl⟩
  refine j_st (st := [.long (iL (iabs (errS S u j d)))]) ?_
  refine j_aloadq_n X dX3_isOutAfter_9 (q := 10) rfl 0 rfl ?_
  refine j_getp X (v := .int (iI (S 11 u))) fl_X3_129 hu.1 (hC.ins hu.1 hu.2) rfl dX3_isOutAfter_10 (q := 13) rfl ?_
  refine j_i2l X (by omega) dX3_isOutAfter_13 (q := 14) rfl ?_
  refine j_lcmp X (by omega) (by omega) dX3_isOutAfter_14 (q := 15) rfl ?_
  refine j_if_le X (tgt := 22) dX3_isOutAfter_15 (by decide) (q := 18) rfl (cmpI_r _ _) (fun c_15 => ?_) (fun c_15 => ?_)
  · skip
    refine j_iconst X (a := 0) dX3_isOutAfter_22 (q := 23) rfl ?_
    exact j_zret X rfl (Or.inl rfl) dX3_isOutAfter_23 (⟨by rw [tf_f (by have := cmpI_le.mp c_15; omega)], rfl⟩) (by decide) (by decide)
  · skip
    refine j_iconst X (a := 1) dX3_isOutAfter_18 (q := 19) rfl ?_
    refine j_goto X (tgt := 23) dX3_isOutAfter_19 (by decide) ?_
    exact j_zret X rfl (Or.inr rfl) dX3_isOutAfter_23 (⟨by rw [tf_t (by have := cmpI_gt.mp c_15; omega)], rfl⟩) (by decide) (by decide)

set_option maxRecDepth 100000 in
set_option maxHeartbeats 4000000 in
theorem c_X3_expected {l : Launch} (hlt : l.stackTraces = false) {D : va_G} {ca : Nat → ClassId} {base : Nat} {ad : Nat → Int → Nat} {n nc nm : Int} {S : St} {w : Wd} (hC : CW base ca ad n nc nm S w) (hI : IC n nc nm S) (z : Int) (hz : -2147483648 ≤ z ∧ z ≤ 2147483647) (d : Int) (hd : -2147483648 ≤ d ∧ d ≤ 2147483647) : CT l D ca base yX3_expected cX3_expected 4 (some .long) 2 2 12 [.ref (ad 0 0), .int (iI (z)), .int (iI (d))] w (fun v w' => ((0 ≤ z ∧ z < n) ∧ (0 ≤ d ∧ d ≤ 9999) ∧ 0 ≤ S 15 z) ∧ v = some (.long (iL (errS S z (S 15 z) d))) ∧ w = w') (fun E w' => ((¬ (0 ≤ z ∧ z < n) ∧ E = nIO) ∨ ((0 ≤ z ∧ z < n) ∧ ¬ (0 ≤ d ∧ d ≤ 9999) ∧ E = nIA) ∨ ((0 ≤ z ∧ z < n) ∧ (0 ≤ d ∧ d ≤ 9999) ∧ S 15 z < 0 ∧ E = nIS)) ∧ w = w') := by
  obtain ⟨hn, hnc, hnm, e3, e4, e5, h6, h7, h8⟩ := hI.top
  refine CT.mk hlt (by decide +kernel) (by first | exact Nat.le_of_ble_eq_true rfl | simp [lg_sl, cat_rf, cat_i, cat_l, cat_r]) ?_
  intro p e s m args below meth c X htab
  rw [show lv_args 0 [.ref (ad 0 0), .int (iI (z)), .int (iI (d))] = [(0, .ref (ad 0 0)), (1, .int (iI (z))), (2, .int (iI (d)))] from by first | rfl | simp [lv_args, cat_rf, cat_i, cat_l, cat_r]]
  refine j_aload_n X dX3_expected_0 (q := 1) rfl 0 rfl ?_
  refine j_iload_n X dX3_expected_1 (q := 2) rfl 1 rfl ?_
  refine j_callV X (As := [.int (iI (z))]) (st := []) hC.cal rfl (c_X3_known hlt hC hI z hz) sv_X3_54 (by decide) rfl (by first | decide | exact Nat.le_of_ble_eq_true rfl | simp [cat_rf, cat_i, cat_l, cat_r]) dX3_expected_2 (by decide) (fun E w' h => jx_out X htab ⟨Or.inl ⟨h.1, h.2.1⟩, h.2.2⟩ (by decide) (by decide)) ?_
  rintro v9 w9 ⟨k1, rfl, rfl⟩
  refine j_st (st := [va_rf (pt (ad 1) (z))]) ?_
  obtain ⟨f_4_0, f_4_1, f_4_2, f_4_3, f_4_4, f_4_5, f_4_6, f_4_7, f_4_8⟩ := hI.ins k1.1 k1.2
  refine j_astoreq_n X (i := 3) dX3_expected_5 rfl (by decide) (q := 6) rfl (lv' := [(3, va_rf (pt (ad 1) (z))), (0, .ref (ad 0 0)), (1, .int (iI (z))), (2, .int (iI (d)))]) (by first | rfl | simp [cat_rf, cat_i, cat_l, cat_r]) ?_
  refine j_iload_n X dX3_expected_6 (q := 7) rfl 3 rfl ?_
  refine j_if_lt X (tgt := 17) dX3_expected_7 (by decide) (q := 10) rfl (by omega) (fun c_7 => ?_) (fun c_7 => ?_)
  · skip
    exact j_throw X htab ts_31_67 dX3_expected_17 dX3_expected_20 dX3_expected_21 dX3_expected_23 dX3_expected_26 (by decide) (by decide) (by decide) (by decide) (⟨Or.inr (Or.inl ⟨k1, by omega, rfl⟩), rfl⟩) (by decide) (by decide)
  · skip
    refine j_iload_n X dX3_expected_10 (q := 11) rfl 3 rfl ?_
    refine j_sipush X (a := 9999) (by decide +kernel) dX3_expected_11 (q := 14) rfl ?_
    refine j_icmp_le X (tgt := 27) dX3_expected_14 (by decide) (q := 17) rfl (by omega) (by omega) (fun c_14 => ?_) (fun c_14 => ?_)
    · skip
      refine j_aloadq_n X dX3_expected_27 (q := 28) rfl 0 rfl ?_
      refine j_getp X (v := va_rf (pt (ad 2) (S 15 z))) fl_X3_95 k1.1 (hC.ins k1.1 k1.2) rfl dX3_expected_28 (q := 31) rfl ?_
      refine j_ifnonnullp X (tgt := 44) dX3_expected_31 (by decide) (q := 34) rfl (fun c_31 => ?_) (fun c_31 => ?_)
      · skip
        obtain ⟨f_5_0, f_5_1, f_5_2, f_5_3, f_5_4, f_5_5, f_5_6, f_5_7, f_5_8, f_5_9⟩ := hI.kal c_31 (by omega)
        refine j_aloadq_n X dX3_expected_44 (q := 45) rfl 0 rfl ?_
        refine j_aloadq_n X dX3_expected_45 (q := 46) rfl 0 rfl ?_
        refine j_getp X (v := va_rf (pt (ad 2) (S 15 z))) fl_X3_95 k1.1 (hC.ins k1.1 k1.2) rfl dX3_expected_46 (q := 49) rfl ?_
        refine j_iload_n X dX3_expected_49 (q := 50) rfl 3 rfl ?_
        refine j_callS X (As := [va_rf (pt (ad 1) (z)), va_rf (pt (ad 2) (S 15 z)), .int (iI (d))]) (st := [])  (c_X3_errorAfter hlt hC hI z (S 15 z) d k1 ⟨c_31, by omega⟩ (by omega)) ss_X3_195 (by decide) rfl (by first | decide | exact Nat.le_of_ble_eq_true rfl | simp [cat_rf, cat_i, cat_l, cat_r]) dX3_expected_50 (by decide) (fun _ _ h => h.elim) ?_
        rintro v9 w9 ⟨rfl, rfl⟩
        refine j_st (st := [.long (iL (errS S z (S 15 z) d))]) ?_
        exact j_lret X rfl dX3_expected_53 (⟨⟨k1, by omega, c_31⟩, rfl, rfl⟩) (by decide) (by decide)
      · skip
        exact j_throw X htab ts_42_193 dX3_expected_34 dX3_expected_37 dX3_expected_38 dX3_expected_40 dX3_expected_43 (by decide) (by decide) (by decide) (by decide) (⟨Or.inr (Or.inr ⟨k1, by omega, c_31, rfl⟩), rfl⟩) (by decide) (by decide)
    · skip
      exact j_throw X htab ts_31_67 dX3_expected_17 dX3_expected_20 dX3_expected_21 dX3_expected_23 dX3_expected_26 (by decide) (by decide) (by decide) (by decide) (⟨Or.inr (Or.inl ⟨k1, by omega, rfl⟩), rfl⟩) (by decide) (by decide)

theorem p2_half (k : Nat) : (2 ^ (k + 1)) / 2 = 2 ^ k := by rw [Nat.pow_succ]; exact Nat.mul_div_cancel _ (by decide)
theorem p2_b {k : Nat} (h : k ≤ 13) : 1 ≤ 2 ^ k ∧ 2 ^ k ≤ 8192 := ⟨Nat.one_le_two_pow, Nat.pow_le_pow_right (by decide) h⟩
theorem p2_td (k : Nat) (h : k ≤ 13) : Int.tdiv ((2 ^ k : Nat) : Int) 2 = ((2 ^ k / 2 : Nat) : Int) := rfl
set_option maxRecDepth 100000 in
set_option maxHeartbeats 4000000 in
theorem c_X3_leastRoot {l : Launch} (hlt : l.stackTraces = false) {D : va_G} {ca : Nat → ClassId} {base : Nat} {w : Wd} (x : Int) (hx : -2147483648 ≤ x ∧ x ≤ 268435456) : CT l D ca base yX3_leastRoot cX3_leastRoot 3 (some .int) 0 0 0 [.int (iI (x))] w (fun v w' => v = some (.int (iI (rt x))) ∧ w = w') (fun _ _ => False) := by
  refine CT.mk hlt (by decide +kernel) (by first | exact Nat.le_of_ble_eq_true rfl | simp [lg_sl, cat_rf, cat_i, cat_l, cat_r]) ?_
  intro p e s m args below meth c X htab
  rw [show lv_args 0 [.int (iI (x))] = [(0, .int (iI (x)))] from by first | rfl | simp [lv_args, cat_rf, cat_i, cat_l, cat_r]]
  refine j_iload_n X dX3_leastRoot_0 (q := 1) rfl 0 rfl ?_
  refine j_if_gt X (tgt := 6) dX3_leastRoot_1 (by decide) (q := 4) rfl (by omega) (fun c_1 => ?_) (fun c_1 => ?_)
  · skip
    refine j_iconst X (a := 0) dX3_leastRoot_6 (q := 7) rfl ?_
    refine j_istore_n X (i := 1) dX3_leastRoot_7 rfl (by decide) (q := 8) rfl (lv' := [(1, .int (iI (0))), (0, .int (iI (x)))]) (by first | rfl | simp [cat_rf, cat_i, cat_l, cat_r]) ?_
    refine j_sipush X (a := 8192) (by decide +kernel) dX3_leastRoot_8 (q := 11) rfl ?_
    refine j_istore_n X (i := 2) dX3_leastRoot_11 rfl (by decide) (q := 12) rfl (lv' := [(2, .int (iI (8192))), (1, .int (iI (0))), (0, .int (iI (x)))]) (by first | rfl | simp [cat_rf, cat_i, cat_l, cat_r]) ?_
    have loop : ∀ (kk : Nat) (b : Int), kk ≤ 14 → (0 ≤ b ∧ b + ((2 ^ kk : Nat) : Int) ≤ 16384) → b * b < x → x ≤ (b + ((2 ^ kk : Nat) : Int)) * (b + ((2 ^ kk : Nat) : Int)) → J p l e (Rm 0 0 0) s m args below meth c (vx_MQ below (Qn D base (fun v w' => v = some (.int (iI (rt x))) ∧ w = w')) (Xn D base (fun _ _ => False)) args s 0 0 (fun q => base ≤ q)) D base 3 0 0 12 [(0, .int (iI (x))), (1, .int (iI (b))), (2, .int (iI (((2 ^ kk / 2 : Nat) : Int))))] [] w := by
      intro kk
      induction kk with
      | zero =>
        intro b hk hb h1 h2
        have e0 : ((2 ^ 0 / 2 : Nat) : Int) = 0 := rfl
        have e1 : ((2 ^ 0 : Nat) : Int) = 1 := rfl
        rw [e1] at hb h2
        rw [e0]
        refine j_iload_n X dX3_leastRoot_12 (q := 13) rfl 2 rfl ?_
        refine j_if_le X (tgt := 38) dX3_leastRoot_13 (by decide) (q := 16) rfl (by omega) (fun c_13 => ?_) (fun c_13 => ?_)
        · skip
          refine j_iload_n X dX3_leastRoot_38 (q := 39) rfl 1 rfl ?_
          refine j_iconst X (a := 1) dX3_leastRoot_39 (q := 40) rfl ?_
          refine j_iadd X dX3_leastRoot_40 (q := 41) rfl ?_
          exact j_iret X rfl dX3_leastRoot_41 (⟨by rw [rt_of (by omega) ⟨by omega, h2, fun t ht0 ht => by have := sq_lt ht0 (show t ≤ b by omega); omega⟩], rfl⟩) (by decide) (by decide)
        · skip
          exact absurd c_13 (by decide)
      | succ kk ih =>
        intro b hk hb h1 h2
        obtain ⟨q1, q2⟩ := p2_b (show kk ≤ 13 by omega)
        have e1 : ((2 ^ (kk + 1) : Nat) : Int) = ((2 ^ kk : Nat) : Int) + ((2 ^ kk : Nat) : Int) := by rw [Nat.pow_succ]; omega
        rw [e1] at hb h2
        rw [p2_half]
        have et : Int.tdiv ((2 ^ kk : Nat) : Int) 2 = ((2 ^ kk / 2 : Nat) : Int) := rfl
        generalize hp : ((2 ^ kk : Nat) : Int) = p at *
        have q1b : 1 ≤ p ∧ p ≤ 8192 := by omega
        have hsq := sq_r (A := 16384) (show 0 ≤ b + p ∧ b + p ≤ 16384 by omega)
        refine j_iload_n X dX3_leastRoot_12 (q := 13) rfl 2 rfl ?_
        refine j_if_le X (tgt := 38) dX3_leastRoot_13 (by decide) (q := 16) rfl (by omega) (fun c_13 => ?_) (fun c_13 => ?_)
        · skip
          exact absurd c_13 (by omega)
        · skip
          refine j_iload_n X dX3_leastRoot_16 (q := 17) rfl 1 rfl ?_
          refine j_iload_n X dX3_leastRoot_17 (q := 18) rfl 2 rfl ?_
          refine j_iadd X dX3_leastRoot_18 (q := 19) rfl ?_
          refine j_iload_n X dX3_leastRoot_19 (q := 20) rfl 1 rfl ?_
          refine j_iload_n X dX3_leastRoot_20 (q := 21) rfl 2 rfl ?_
          refine j_iadd X dX3_leastRoot_21 (q := 22) rfl ?_
          refine j_imul X dX3_leastRoot_22 (q := 23) rfl ?_
          refine j_iload_n X dX3_leastRoot_23 (q := 24) rfl 0 rfl ?_
          refine j_icmp_ge X (tgt := 31) dX3_leastRoot_24 (by decide) (q := 27) rfl (by omega) (by omega) (fun c_24 => ?_) (fun c_24 => ?_)
          · skip
            refine j_iload_n X dX3_leastRoot_31 (q := 32) rfl 2 rfl ?_
            refine j_iconst X (a := 2) dX3_leastRoot_32 (q := 33) rfl ?_
            refine j_idiv X (by omega) (by omega) dX3_leastRoot_33 (q := 34) rfl ?_
            refine j_istore_n X (i := 2) dX3_leastRoot_34 rfl (by decide) (q := 35) rfl (lv' := [(2, .int (iI (Int.tdiv (p) (2)))), (0, .int (iI (x))), (1, .int (iI (b)))]) (by first | rfl | simp [cat_rf, cat_i, cat_l, cat_r]) ?_
            refine j_goto X (tgt := 12) dX3_leastRoot_35 (by decide) ?_
            rw [et]
            exact j_lv (ih b (by omega) (by omega) h1 c_24) [1, 2, 0] rfl
          · skip
            refine j_iload_n X dX3_leastRoot_27 (q := 28) rfl 1 rfl ?_
            refine j_iload_n X dX3_leastRoot_28 (q := 29) rfl 2 rfl ?_
            refine j_iadd X dX3_leastRoot_29 (q := 30) rfl ?_
            refine j_istore_n X (i := 1) dX3_leastRoot_30 rfl (by decide) (q := 31) rfl (lv' := [(1, .int (iI (b + p))), (0, .int (iI (x))), (2, .int (iI (p)))]) (by first | rfl | simp [cat_rf, cat_i, cat_l, cat_r]) ?_
            refine j_iload_n X dX3_leastRoot_31 (q := 32) rfl 2 rfl ?_
            refine j_iconst X (a := 2) dX3_leastRoot_32 (q := 33) rfl ?_
            refine j_idiv X (by omega) (by omega) dX3_leastRoot_33 (q := 34) rfl ?_
            refine j_istore_n X (i := 2) dX3_leastRoot_34 rfl (by decide) (q := 35) rfl (lv' := [(2, .int (iI (Int.tdiv (p) (2)))), (1, .int (iI (b + p))), (0, .int (iI (x)))]) (by first | rfl | simp [cat_rf, cat_i, cat_l, cat_r]) ?_
            refine j_goto X (tgt := 12) dX3_leastRoot_35 (by decide) ?_
            rw [et]
            exact j_lv (ih (b + p) (by omega) (by omega) c_24 (by rw [show b + p + p = b + (p + p) by omega]; exact h2)) [2, 1, 0] rfl
    exact j_lv (loop 14 0 (by decide) (by decide) (by omega) (by rw [show ((0 : Int) + ((2 ^ 14 : Nat) : Int)) * (0 + ((2 ^ 14 : Nat) : Int)) = 268435456 from rfl]; exact hx.2)) [2, 1, 0] rfl
  · skip
    refine j_iconst X (a := 0) dX3_leastRoot_4 (q := 5) rfl ?_
    exact j_iret X rfl dX3_leastRoot_5 (⟨by rw [rt_of (x := x) (by omega) ⟨Int.le_refl 0, by omega, fun t a b => by omega⟩], rfl⟩) (by decide) (by decide)

theorem IC.own {n nc nm : Int} {S : St} (hI : IC n nc nm S) : ∀ i, 0 ≤ i → i < n → (-1 ≤ S 14 i ∧ S 14 i < n) ∧ (0 ≤ S 12 i ∧ S 12 i ≤ 999) := fun i a b => ⟨(hI.ins a b).2.2.2.2.1, (hI.ins a b).2.2.1⟩
set_option maxRecDepth 100000 in
set_option maxHeartbeats 4000000 in
theorem c_X3_uncertaintyWithChain {l : Launch} (hlt : l.stackTraces = false) {D : va_G} {ca : Nat → ClassId} {base : Nat} {ad : Nat → Int → Nat} {n nc nm : Int} {S : St} {w : Wd} (hC : CW base ca ad n nc nm S w) (hI : IC n nc nm S) : ∀ (kk : Nat) (u dp : Int), (-1 ≤ u ∧ u < n) → ends (S 14) kk u → (0 ≤ dp ∧ dp + kk ≤ 12) → CT l D ca base yX3_uncertaintyWithChain cX3_uncertaintyWithChain 3 (some .int) (kk + 1) 0 0 [va_rf (pt (ad 1) (u)), .int (iI (dp))] w (fun v w' => v = some (.int (iI (unc (S 14) (S 12) kk u))) ∧ w = w') (fun _ _ => False) := by
  obtain ⟨hn, hnc, hnm, e3, e4, e5, h6, h7, h8⟩ := hI.top
  intro kk
  induction kk using Nat.strongRecOn with
  | ind kk ih =>
    intro u dp hu hk hdp
    refine CT.mk hlt (by decide +kernel) (by simp [lg_sl, cat_rf, cat_i, cat_l, cat_r]) ?_
    intro p e s m args below meth c X htab
    rw [show lv_args 0 [va_rf (pt (ad 1) (u)), .int (iI (dp))] = [(0, va_rf (pt (ad 1) (u))), (1, .int (iI (dp)))] from by simp [lv_args, cat_rf, cat_i, cat_l, cat_r]]
    refine j_aloadq_n X dX3_uncertaintyWithChain_0 (q := 1) rfl 0 rfl ?_
    refine j_ifnullp X (tgt := 10) dX3_uncertaintyWithChain_1 (by decide) (q := 4) rfl (fun c_1 => ?_) (fun c_1 => ?_)
    · skip
      refine j_iconst X (a := 0) dX3_uncertaintyWithChain_10 (q := 11) rfl ?_
      exact j_iret X rfl dX3_uncertaintyWithChain_11 (⟨by rw [unc_n (by omega)], rfl⟩) (by decide) (by decide)
    · skip
      obtain ⟨f_6_0, f_6_1, f_6_2, f_6_3, f_6_4, f_6_5, f_6_6, f_6_7, f_6_8⟩ := hI.ins c_1 hu.2
      obtain ⟨j9, rfl, hk9⟩ := ends_pos hk c_1
      refine j_iload_n X dX3_uncertaintyWithChain_4 (q := 5) rfl 1 rfl ?_
      refine j_bipush X (a := 12) (by decide +kernel) dX3_uncertaintyWithChain_5 (q := 7) rfl ?_
      refine j_icmp_lt X (tgt := 12) dX3_uncertaintyWithChain_7 (by decide) (q := 10) rfl (by omega) (by omega) (fun c_7 => ?_) (fun c_7 => ?_)
      · skip
        refine j_aloadq_n X dX3_uncertaintyWithChain_12 (q := 13) rfl 0 rfl ?_
        refine j_getp X (v := va_rf (pt (ad 1) (S 14 u))) fl_X3_50 c_1 (hC.ins c_1 hu.2) rfl dX3_uncertaintyWithChain_13 (q := 16) rfl ?_
        refine j_iload_n X dX3_uncertaintyWithChain_16 (q := 17) rfl 1 rfl ?_
        refine j_iconst X (a := 1) dX3_uncertaintyWithChain_17 (q := 18) rfl ?_
        refine j_iadd X dX3_uncertaintyWithChain_18 (q := 19) rfl ?_
        refine j_callS X (As := [va_rf (pt (ad 1) (S 14 u)), .int (iI (dp + 1))]) (st := []) (ih j9 (by omega) (S 14 u) (dp + 1) (by omega) hk9 (by omega)) ss_X3_203 (by show (8 * (j9 + 1) + 8) + 1 ≤ 8 * (j9 + 1 + 1) + 8 ∧ 8 + (3 + 11) + (120 * (j9 + 1) + 200) ≤ 120 * (j9 + 1 + 1) + 200; omega) rfl (by decide) dX3_uncertaintyWithChain_19 (by show 0 + 0 ≤ 0 ∧ 0 + 0 ≤ 0; decide) (fun _ _ h => h.elim) ?_
        rintro v9 w9 ⟨rfl, rfl⟩
        have hb9 := unc_b hI.own j9 (S 14 u) (by omega) (by omega) (by omega)
        have h5 := sq_r (show 0 ≤ S 12 u ∧ S 12 u ≤ 999 by omega)
        have h6 := sq_r (A := 12000) (show 0 ≤ unc (S 14) (S 12) j9 (S 14 u) ∧ unc (S 14) (S 12) j9 (S 14 u) ≤ 12000 by omega)
        refine j_st (st := [.int (iI (unc (S 14) (S 12) j9 (S 14 u)))]) ?_
        refine j_istore_n X (i := 2) dX3_uncertaintyWithChain_22 rfl (by decide) (q := 23) rfl (lv' := [(2, .int (iI (unc (S 14) (S 12) j9 (S 14 u)))), (0, va_rf (pt (ad 1) (u))), (1, .int (iI (dp)))]) (by first | rfl | simp [cat_rf, cat_i, cat_l, cat_r]) ?_
        refine j_aloadq_n X dX3_uncertaintyWithChain_23 (q := 24) rfl 1 rfl ?_
        refine j_getp X (v := .int (iI (S 12 u))) fl_X3_213 c_1 (hC.ins c_1 hu.2) rfl dX3_uncertaintyWithChain_24 (q := 27) rfl ?_
        refine j_aloadq_n X dX3_uncertaintyWithChain_27 (q := 28) rfl 1 rfl ?_
        refine j_getp X (v := .int (iI (S 12 u))) fl_X3_213 c_1 (hC.ins c_1 hu.2) rfl dX3_uncertaintyWithChain_28 (q := 31) rfl ?_
        refine j_imul X dX3_uncertaintyWithChain_31 (q := 32) rfl ?_
        refine j_iload_n X dX3_uncertaintyWithChain_32 (q := 33) rfl 0 rfl ?_
        refine j_iload_n X dX3_uncertaintyWithChain_33 (q := 34) rfl 0 rfl ?_
        refine j_imul X dX3_uncertaintyWithChain_34 (q := 35) rfl ?_
        refine j_iadd X dX3_uncertaintyWithChain_35 (q := 36) rfl ?_
        refine j_callS X (As := [.int (iI (((S 12 u) * (S 12 u)) + ((unc (S 14) (S 12) j9 (S 14 u)) * (unc (S 14) (S 12) j9 (S 14 u)))))]) (st := []) (c_X3_leastRoot hlt (((S 12 u) * (S 12 u)) + ((unc (S 14) (S 12) j9 (S 14 u)) * (unc (S 14) (S 12) j9 (S 14 u)))) (by omega)) ss_X3_216 (by show (8 * 0 + 8) + 1 ≤ 8 * (j9 + 1 + 1) + 8 ∧ 8 + (3 + 11) + (120 * 0 + 200) ≤ 120 * (j9 + 1 + 1) + 200; omega) rfl (by decide) dX3_uncertaintyWithChain_36 (by show 0 + 0 + 0 ≤ 0 ∧ 0 + 0 + 0 ≤ 0; decide) (fun _ _ h => h.elim) ?_
        rintro v9 w9 ⟨rfl, rfl⟩
        refine j_st (st := [.int (iI (rt (((S 12 u) * (S 12 u)) + ((unc (S 14) (S 12) j9 (S 14 u)) * (unc (S 14) (S 12) j9 (S 14 u))))))]) ?_
        exact j_iret X rfl dX3_uncertaintyWithChain_39 (⟨by rw [unc_s c_1], rfl⟩) (by decide) (by decide)
      · skip
        exact absurd c_7 (by omega)

set_option maxRecDepth 100000 in
set_option maxHeartbeats 4000000 in
theorem c_X3_uncertainty {l : Launch} (hlt : l.stackTraces = false) {D : va_G} {ca : Nat → ClassId} {base : Nat} {ad : Nat → Int → Nat} {n nc nm : Int} {S : St} {w : Wd} (hC : CW base ca ad n nc nm S w) (hI : IC n nc nm S) (z : Int) (hz : -2147483648 ≤ z ∧ z ≤ 2147483647) : CT l D ca base yX3_uncertainty cX3_uncertainty 2 (some .int) 14 1 6 [.ref (ad 0 0), .int (iI (z))] w (fun v w' => (0 ≤ z ∧ z < n) ∧ v = some (.int (iI (unc (S 14) (S 12) 12 z))) ∧ w = w') (fun E w' => ¬ (0 ≤ z ∧ z < n) ∧ E = nIO ∧ w = w') := by
  obtain ⟨hn, hnc, hnm, e3, e4, e5, h6, h7, h8⟩ := hI.top
  refine CT.mk hlt (by decide +kernel) (by first | exact Nat.le_of_ble_eq_true rfl | simp [lg_sl, cat_rf, cat_i, cat_l, cat_r]) ?_
  intro p e s m args below meth c X htab
  rw [show lv_args 0 [.ref (ad 0 0), .int (iI (z))] = [(0, .ref (ad 0 0)), (1, .int (iI (z)))] from by first | rfl | simp [lv_args, cat_rf, cat_i, cat_l, cat_r]]
  refine j_aload_n X dX3_uncertainty_0 (q := 1) rfl 0 rfl ?_
  refine j_iload_n X dX3_uncertainty_1 (q := 2) rfl 1 rfl ?_
  refine j_callV X (As := [.int (iI (z))]) (st := []) hC.cal rfl (c_X3_known hlt hC hI z hz) sv_X3_54 (by decide) rfl (by first | decide | exact Nat.le_of_ble_eq_true rfl | simp [cat_rf, cat_i, cat_l, cat_r]) dX3_uncertainty_2 (by decide) (fun E w' h => jx_out X htab h (by decide) (by decide)) ?_
  rintro v9 w9 ⟨k1, rfl, rfl⟩
  refine j_st (st := [va_rf (pt (ad 1) (z))]) ?_
  obtain ⟨f_7_0, f_7_1, f_7_2, f_7_3, f_7_4, f_7_5, f_7_6, f_7_7, f_7_8⟩ := hI.ins k1.1 k1.2
  refine j_iconst X (a := 0) dX3_uncertainty_5 (q := 6) rfl ?_
  refine j_callS X (As := [va_rf (pt (ad 1) (z)), .int (iI (0))]) (st := [])  (c_X3_uncertaintyWithChain hlt hC hI 12 z 0 (by omega) (hI.ends (by omega) k1.2) (by decide)) ss_X3_203 (by decide) rfl (by first | decide | exact Nat.le_of_ble_eq_true rfl | simp [cat_rf, cat_i, cat_l, cat_r]) dX3_uncertainty_6 (by decide) (fun _ _ h => h.elim) ?_
  rintro v9 w9 ⟨rfl, rfl⟩
  refine j_st (st := [.int (iI (unc (S 14) (S 12) 12 z))]) ?_
  exact j_iret X rfl dX3_uncertainty_9 (⟨k1, rfl, rfl⟩) (by decide) (by decide)

set_option maxRecDepth 100000 in
set_option maxHeartbeats 4000000 in
theorem c_X3_limit {l : Launch} (hlt : l.stackTraces = false) {D : va_G} {ca : Nat → ClassId} {base : Nat} {ad : Nat → Int → Nat} {n nc nm : Int} {S : St} {w : Wd} (hC : CW base ca ad n nc nm S w) (hI : IC n nc nm S) (z : Int) (hz : -2147483648 ≤ z ∧ z ≤ 2147483647) : CT l D ca base yX3_limit cX3_limit 3 (some .int) 14 1 6 [.ref (ad 0 0), .int (iI (z))] w (fun v w' => (0 ≤ z ∧ z < n) ∧ v = some (.int (iI (if 0 < S 11 z - unc (S 14) (S 12) 12 z then S 11 z - unc (S 14) (S 12) 12 z else 0))) ∧ w = w') (fun E w' => ¬ (0 ≤ z ∧ z < n) ∧ E = nIO ∧ w = w') := by
  obtain ⟨hn, hnc, hnm, e3, e4, e5, h6, h7, h8⟩ := hI.top
  refine CT.mk hlt (by decide +kernel) (by first | exact Nat.le_of_ble_eq_true rfl | simp [lg_sl, cat_rf, cat_i, cat_l, cat_r]) ?_
  intro p e s m args below meth c X htab
  rw [show lv_args 0 [.ref (ad 0 0), .int (iI (z))] = [(0, .ref (ad 0 0)), (1, .int (iI (z)))] from by first | rfl | simp [lv_args, cat_rf, cat_i, cat_l, cat_r]]
  refine j_aload_n X dX3_limit_0 (q := 1) rfl 0 rfl ?_
  refine j_iload_n X dX3_limit_1 (q := 2) rfl 1 rfl ?_
  refine j_callV X (As := [.int (iI (z))]) (st := []) hC.cal rfl (c_X3_known hlt hC hI z hz) sv_X3_54 (by decide) rfl (by first | decide | exact Nat.le_of_ble_eq_true rfl | simp [cat_rf, cat_i, cat_l, cat_r]) dX3_limit_2 (by decide) (fun E w' h => jx_out X htab h (by decide) (by decide)) ?_
  rintro v9 w9 ⟨k1, rfl, rfl⟩
  refine j_st (st := [va_rf (pt (ad 1) (z))]) ?_
  obtain ⟨f_8_0, f_8_1, f_8_2, f_8_3, f_8_4, f_8_5, f_8_6, f_8_7, f_8_8⟩ := hI.ins k1.1 k1.2
  refine j_astoreq_n X (i := 2) dX3_limit_5 rfl (by decide) (q := 6) rfl (lv' := [(2, va_rf (pt (ad 1) (z))), (0, .ref (ad 0 0)), (1, .int (iI (z)))]) (by first | rfl | simp [cat_rf, cat_i, cat_l, cat_r]) ?_
  refine j_iconst X (a := 0) dX3_limit_6 (q := 7) rfl ?_
  refine j_aloadq_n X dX3_limit_7 (q := 8) rfl 0 rfl ?_
  refine j_getp X (v := .int (iI (S 11 z))) fl_X3_129 k1.1 (hC.ins k1.1 k1.2) rfl dX3_limit_8 (q := 11) rfl ?_
  refine j_aloadq_n X dX3_limit_11 (q := 12) rfl 0 rfl ?_
  refine j_iconst X (a := 0) dX3_limit_12 (q := 13) rfl ?_
  refine j_callS X (As := [va_rf (pt (ad 1) (z)), .int (iI (0))]) (st := [.int (iI (S 11 z)), .int (iI (0))])  (c_X3_uncertaintyWithChain hlt hC hI 12 z 0 (by omega) (hI.ends (by omega) k1.2) (by decide)) ss_X3_203 (by decide) rfl (by first | decide | exact Nat.le_of_ble_eq_true rfl | simp [cat_rf, cat_i, cat_l, cat_r]) dX3_limit_13 (by decide) (fun _ _ h => h.elim) ?_
  rintro v9 w9 ⟨rfl, rfl⟩
  refine j_st (st := [.int (iI (unc (S 14) (S 12) 12 z)), .int (iI (S 11 z)), .int (iI (0))]) ?_
  refine j_isub X dX3_limit_16 (q := 17) rfl ?_
  have hb9 := unc_b hI.own 12 z (by decide) (by omega) k1.2
  refine j_callS X (As := [.int (iI (0)), .int (iI ((S 11 z) - (unc (S 14) (S 12) 12 z)))]) (st := [])  (c_J9_max_7cf53 hlt 0 (S 11 z - unc (S 14) (S 12) 12 z) (by decide) (by omega)) ss_X3_165 (by decide) rfl (by first | decide | exact Nat.le_of_ble_eq_true rfl | simp [cat_rf, cat_i, cat_l, cat_r]) dX3_limit_17 (by decide) (fun _ _ h => h.elim) ?_
  rintro v9 w9 ⟨rfl, rfl⟩
  refine j_st (st := [.int (iI (if 0 < S 11 z - unc (S 14) (S 12) 12 z then S 11 z - unc (S 14) (S 12) 12 z else 0))]) ?_
  exact j_iret X rfl dX3_limit_20 (⟨k1, rfl, rfl⟩) (by decide) (by decide)
