theorem ends_pos {ref : Int → Int} {k : Nat} {u : Int} (h : ends ref k u) (h0 : 0 ≤ u) : ∃ j, k = j + 1 ∧ ends ref j (ref u) := by
  cases k with
  | zero => exact absurd (show u < 0 from h) (by omega)
  | succ j => exact ⟨j, rfl, ends_st h h0⟩
theorem inCh_n {ref : Int → Int} {k : Nat} {u i : Int} (h : u < 0) : inCh ref k u i = 0 := by
  cases k with
  | zero => rfl
  | succ j => simp [inCh, h]
theorem inCh_e {ref : Int → Int} {k : Nat} {u i : Int} (h : 0 ≤ u) (e : u = i) : inCh ref (k + 1) u i = 1 := by
  rw [inCh, if_neg (by omega), if_pos e]
theorem inCh_s {ref : Int → Int} {k : Nat} {u i : Int} (h : 0 ≤ u) (e : u ≠ i) : inCh ref (k + 1) u i = inCh ref k (ref u) i := by
  rw [inCh, if_neg (by omega), if_neg e]
theorem fof_n {ref inF : Int → Int} {k : Nat} {u : Int} (h : u < 0) : fof ref inF k u = -1 := by
  cases k with
  | zero => rfl
  | succ j => simp [fof, h]
theorem fof_e {ref inF : Int → Int} {k : Nat} {u : Int} (h : 0 ≤ u) (e : inF u = 0) : fof ref inF (k + 1) u = u := by
  rw [fof, if_neg (by omega), if_pos e]
theorem fof_s {ref inF : Int → Int} {k : Nat} {u : Int} (h : 0 ≤ u) (e : inF u ≠ 0) : fof ref inF (k + 1) u = fof ref inF k (ref u) := by
  rw [fof, if_neg (by omega), if_neg e]
theorem fof_r {ref inF : Int → Int} {n : Int} (hr : ∀ i, 0 ≤ i → i < n → -1 ≤ ref i ∧ ref i < n) : ∀ (k : Nat) (u : Int), -1 ≤ u → u < n → 0 ≤ n → -1 ≤ fof ref inF k u ∧ fof ref inF k u < n
  | 0, _, _, _, h => by simp [fof]; omega
  | k + 1, u, h0, h1, h => by
    by_cases hu : u < 0
    · rw [fof_n hu]; omega
    · by_cases hf : inF u = 0
      · rw [fof_e (by omega) hf]; omega
      · rw [fof_s (by omega) hf]
        have := hr u (by omega) h1
        exact fof_r hr k _ this.1 this.2 h
theorem len_n {ref : Int → Int} {k : Nat} {u : Int} (h : u < 0) : len ref k u = 0 := by
  cases k with
  | zero => rfl
  | succ j => simp [len, h]
theorem len_s {ref : Int → Int} {k : Nat} {u : Int} (h : 0 ≤ u) : len ref (k + 1) u = 1 + len ref k (ref u) := by
  rw [len, if_neg (by omega)]
theorem len_b (ref : Int → Int) : ∀ (k : Nat) (u : Int), 0 ≤ len ref k u ∧ len ref k u ≤ k
  | 0, _ => by simp [len]
  | k + 1, u => by
    by_cases hu : u < 0
    · rw [len_n hu]; omega
    · rw [len_s (by omega)]
      have := len_b ref k (ref u)
      omega
theorem rst_n {S : St} {f mom : Int} {k : Nat} {u : Int} (h : u < 0) : rst S f mom k u = 0 := by
  cases k with
  | zero => rfl
  | succ j => simp [rst, h]
theorem rst_e {S : St} {f mom : Int} {k : Nat} {u : Int} (h : 0 ≤ u) (e : u = f) : rst S f mom (k + 1) u = 1 := by
  rw [rst, if_neg (by omega), if_pos e]
theorem rst_o {S : St} {f mom : Int} {k : Nat} {u : Int} (h : 0 ≤ u) (e : u ≠ f) (z : S 27 u < mom) : rst S f mom (k + 1) u = 0 := by
  rw [rst, if_neg (by omega), if_neg e, if_pos z]
theorem rst_s {S : St} {f mom : Int} {k : Nat} {u : Int} (h : 0 ≤ u) (e : u ≠ f) (z : mom ≤ S 27 u) : rst S f mom (k + 1) u = rst S f mom k (S 24 u) := by
  rw [rst, if_neg (by omega), if_neg e, if_neg (by omega)]
theorem pt_eq {ak : Int → Nat} {n u v : Int} (inj : ∀ i j, 0 ≤ i → i < n → 0 ≤ j → j < n → ak i = ak j → i = j) (hu : -1 ≤ u ∧ u < n) (hv : -1 ≤ v ∧ v < n) : pt ak u = pt ak v ↔ u = v := by
  constructor
  · intro h
    by_cases h1 : u < 0
    · rw [pt_n h1] at h
      have := pt_none h.symm
      omega
    · by_cases h2 : v < 0
      · rw [pt_n h2] at h
        have := pt_none h
        omega
      · rw [pt_s (by omega), pt_s (by omega)] at h
        exact inj _ _ (by omega) hu.2 (by omega) hv.2 (Option.some.inj h)
  · intro h; rw [h]
def iabs (z : Int) : Int := if z < 0 then -z else z
theorem iabs_n {z : Int} (h : z < 0) : iabs z = -z := if_pos h
theorem iabs_p {z : Int} (h : 0 ≤ z) : iabs z = z := if_neg (by omega)
theorem xor_sign {x y : Int} (hx : -9223372036854775808 ≤ x ∧ x ≤ 9223372036854775807) (hy : 0 ≤ y ∧ y ≤ 9223372036854775807) : ∃ z : Int, (-9223372036854775808 ≤ z ∧ z ≤ 9223372036854775807) ∧ iL x ^^^ iL y = iL z ∧ (z < 0 ↔ x < 0) := by
  refine ⟨(iL x ^^^ iL y).toInt, ?_, (Int64.ofInt_toInt _).symm, ?_⟩
  · have h1 := Int64.le_toInt (iL x ^^^ iL y)
    have h2 := Int64.toInt_lt (iL x ^^^ iL y)
    omega
  · have e1 : (iL x ^^^ iL y).toInt < 0 ↔ (iL x ^^^ iL y).toBitVec.msb = true := by
      rw [← Int64.toInt_toBitVec, BitVec.msb_eq_toInt, decide_eq_true_iff]
    have e2 : x < 0 ↔ (iL x).toBitVec.msb = true := by
      rw [BitVec.msb_eq_toInt, decide_eq_true_iff, Int64.toInt_toBitVec, iL_T hx]
    have e3 : (iL y).toBitVec.msb = false := by
      rw [BitVec.msb_eq_toInt, decide_eq_false_iff_not, Int64.toInt_toBitVec, iL_T (by omega)]
      omega
    rw [e1, e2, Int64.toBitVec_xor, BitVec.msb_xor, e3, Bool.xor_false]
theorem fdiv_lem {x y : Int} (hy : 1 ≤ y) : x / y = if x < 0 ∧ x.tdiv y * y ≠ x then x.tdiv y - 1 else x.tdiv y := by
  have h1 := Int.mul_tdiv_add_tmod x y
  have h2 := Int.mul_ediv_add_emod x y
  have h3 := Int.emod_nonneg x (show y ≠ 0 by omega)
  have h4 := Int.emod_lt_of_pos x (show 0 < y by omega)
  by_cases hx : x < 0
  · have h5 : x.tmod y ≤ 0 := (by have := Int.tmod_nonneg (a := -x) y (by omega); rw [Int.neg_tmod] at this; omega)
    have h6 : -y < x.tmod y := (by have := Int.tmod_lt_of_pos (-x) (show 0 < y by omega); rw [Int.neg_tmod] at this; omega)
    by_cases hz : x.tdiv y * y = x
    · rw [if_neg (fun z => z.2 hz)]
      have : x.tmod y = 0 := by rw [Int.mul_comm] at hz; omega
      have hd : y * (x / y - x.tdiv y) = -(x % y) := by rw [Int.mul_sub]; omega
      have : x / y - x.tdiv y = 0 := by
        rcases Int.lt_trichotomy (x / y - x.tdiv y) 0 with h | h | h
        · have := Int.mul_le_mul_of_nonneg_left (show x / y - x.tdiv y ≤ -1 by omega) (show 0 ≤ y by omega)
          omega
        · exact h
        · have := Int.mul_le_mul_of_nonneg_left (show 1 ≤ x / y - x.tdiv y by omega) (show 0 ≤ y by omega)
          omega
      omega
    · rw [if_pos ⟨hx, hz⟩]
      have hne : x.tmod y ≠ 0 := fun z => hz (by rw [Int.mul_comm]; omega)
      have hd : y * (x / y - x.tdiv y) = x.tmod y - x % y := by rw [Int.mul_sub]; omega
      have : x / y - x.tdiv y = -1 := by
        rcases Int.lt_trichotomy (x / y - x.tdiv y) (-1) with h | h | h
        · have := Int.mul_le_mul_of_nonneg_left (show x / y - x.tdiv y ≤ -2 by omega) (show 0 ≤ y by omega)
          omega
        · exact h
        · have := Int.mul_le_mul_of_nonneg_left (show 0 ≤ x / y - x.tdiv y by omega) (show 0 ≤ y by omega)
          omega
      omega
  · rw [if_neg (fun z => hx z.1), Int.tdiv_eq_ediv_of_nonneg (by omega)]
set_option maxRecDepth 100000 in
set_option maxHeartbeats 4000000 in
theorem c_J9_abs_0f7a4 {l : Launch} (hlt : l.stackTraces = false) {D : va_G} {ca : Nat → ClassId} {base : Nat} {w : Wd} (z : Int) (hz : -2147483647 ≤ z ∧ z ≤ 2147483647) : CT l D ca base yJ9_abs_0f7a4 cJ9_abs_0f7a4 1 (some .int) 0 0 0 [.int (iI (z))] w (fun v w' => v = some (.int (iI (iabs z))) ∧ w = w') (fun _ _ => False) := by
  refine CT.mk hlt (by decide +kernel) (by first | exact Nat.le_of_ble_eq_true rfl | simp [lg_sl, cat_rf, cat_i, cat_l, cat_r]) ?_
  intro p e s m args below meth c X htab
  rw [show lv_args 0 [.int (iI (z))] = [(0, .int (iI (z)))] from by first | rfl | simp [lv_args, cat_rf, cat_i, cat_l, cat_r]]
  refine j_iload_n X dJ9_abs_0f7a4_0 (q := 1) rfl 0 rfl ?_
  refine j_if_ge X (tgt := 9) dJ9_abs_0f7a4_1 (by decide) (q := 4) rfl (by omega) (fun c_1 => ?_) (fun c_1 => ?_)
  · skip
    refine j_iload_n X dJ9_abs_0f7a4_9 (q := 10) rfl 0 rfl ?_
    exact j_iret X rfl dJ9_abs_0f7a4_10 (⟨by rw [iabs_p (by omega)], rfl⟩) (by decide) (by decide)
  · skip
    refine j_iload_n X dJ9_abs_0f7a4_4 (q := 5) rfl 0 rfl ?_
    refine j_ineg X dJ9_abs_0f7a4_5 (q := 6) rfl ?_
    refine j_goto X (tgt := 10) dJ9_abs_0f7a4_6 (by decide) ?_
    exact j_iret X rfl dJ9_abs_0f7a4_10 (⟨by rw [iabs_n (by omega)], rfl⟩) (by decide) (by decide)

set_option maxRecDepth 100000 in
set_option maxHeartbeats 4000000 in
theorem c_J9_abs_067f4 {l : Launch} (hlt : l.stackTraces = false) {D : va_G} {ca : Nat → ClassId} {base : Nat} {w : Wd} (z : Int) (hz : -9223372036854775807 ≤ z ∧ z ≤ 9223372036854775807) : CT l D ca base yJ9_abs_067f4 cJ9_abs_067f4 2 (some .long) 0 0 0 [.long (iL (z))] w (fun v w' => v = some (.long (iL (iabs z))) ∧ w = w') (fun _ _ => False) := by
  refine CT.mk hlt (by decide +kernel) (by first | exact Nat.le_of_ble_eq_true rfl | simp [lg_sl, cat_rf, cat_i, cat_l, cat_r]) ?_
  intro p e s m args below meth c X htab
  rw [show lv_args 0 [.long (iL (z))] = [(0, .long (iL (z)))] from by first | rfl | simp [lv_args, cat_rf, cat_i, cat_l, cat_r]]
  refine j_lload_n X dJ9_abs_067f4_0 (q := 1) rfl 0 rfl ?_
  refine j_lconst X (a := 0) (by decide +kernel) dJ9_abs_067f4_1 (q := 2) rfl ?_
  refine j_lcmp X (by omega) (by omega) dJ9_abs_067f4_2 (q := 3) rfl ?_
  refine j_if_ge X (tgt := 11) dJ9_abs_067f4_3 (by decide) (q := 6) rfl (cmpI_r _ _) (fun c_3 => ?_) (fun c_3 => ?_)
  · skip
    refine j_lload_n X dJ9_abs_067f4_11 (q := 12) rfl 0 rfl ?_
    exact j_lret X rfl dJ9_abs_067f4_12 (⟨by rw [iabs_p (cmpI_ge.mp c_3)], rfl⟩) (by decide) (by decide)
  · skip
    refine j_lload_n X dJ9_abs_067f4_6 (q := 7) rfl 0 rfl ?_
    refine j_lneg X dJ9_abs_067f4_7 (q := 8) rfl ?_
    refine j_goto X (tgt := 12) dJ9_abs_067f4_8 (by decide) ?_
    exact j_lret X rfl dJ9_abs_067f4_12 (⟨by rw [iabs_n (cmpI_lt.mp c_3)], rfl⟩) (by decide) (by decide)

set_option maxRecDepth 100000 in
set_option maxHeartbeats 4000000 in
theorem c_J9_max_7cf53 {l : Launch} (hlt : l.stackTraces = false) {D : va_G} {ca : Nat → ClassId} {base : Nat} {w : Wd} (x y : Int) (hx : -2147483648 ≤ x ∧ x ≤ 2147483647) (hy : -2147483648 ≤ y ∧ y ≤ 2147483647) : CT l D ca base yJ9_max_7cf53 cJ9_max_7cf53 2 (some .int) 0 0 0 [.int (iI (x)), .int (iI (y))] w (fun v w' => v = some (.int (iI (if x < y then y else x))) ∧ w = w') (fun _ _ => False) := by
  refine CT.mk hlt (by decide +kernel) (by first | exact Nat.le_of_ble_eq_true rfl | simp [lg_sl, cat_rf, cat_i, cat_l, cat_r]) ?_
  intro p e s m args below meth c X htab
  rw [show lv_args 0 [.int (iI (x)), .int (iI (y))] = [(0, .int (iI (x))), (1, .int (iI (y)))] from by first | rfl | simp [lv_args, cat_rf, cat_i, cat_l, cat_r]]
  refine j_iload_n X dJ9_max_7cf53_0 (q := 1) rfl 0 rfl ?_
  refine j_iload_n X dJ9_max_7cf53_1 (q := 2) rfl 1 rfl ?_
  refine j_icmp_lt X (tgt := 9) dJ9_max_7cf53_2 (by decide) (q := 5) rfl (by omega) (by omega) (fun c_2 => ?_) (fun c_2 => ?_)
  · skip
    refine j_iload_n X dJ9_max_7cf53_9 (q := 10) rfl 1 rfl ?_
    exact j_iret X rfl dJ9_max_7cf53_10 (⟨by rw [if_pos (by omega)], rfl⟩) (by decide) (by decide)
  · skip
    refine j_iload_n X dJ9_max_7cf53_5 (q := 6) rfl 0 rfl ?_
    refine j_goto X (tgt := 10) dJ9_max_7cf53_6 (by decide) ?_
    exact j_iret X rfl dJ9_max_7cf53_10 (⟨by rw [if_neg (by omega)], rfl⟩) (by decide) (by decide)

set_option maxRecDepth 100000 in
set_option maxHeartbeats 4000000 in
theorem c_J9_min_7cf53 {l : Launch} (hlt : l.stackTraces = false) {D : va_G} {ca : Nat → ClassId} {base : Nat} {w : Wd} (x y : Int) (hx : -2147483648 ≤ x ∧ x ≤ 2147483647) (hy : -2147483648 ≤ y ∧ y ≤ 2147483647) : CT l D ca base yJ9_min_7cf53 cJ9_min_7cf53 2 (some .int) 0 0 0 [.int (iI (x)), .int (iI (y))] w (fun v w' => v = some (.int (iI (if y < x then y else x))) ∧ w = w') (fun _ _ => False) := by
  refine CT.mk hlt (by decide +kernel) (by first | exact Nat.le_of_ble_eq_true rfl | simp [lg_sl, cat_rf, cat_i, cat_l, cat_r]) ?_
  intro p e s m args below meth c X htab
  rw [show lv_args 0 [.int (iI (x)), .int (iI (y))] = [(0, .int (iI (x))), (1, .int (iI (y)))] from by first | rfl | simp [lv_args, cat_rf, cat_i, cat_l, cat_r]]
  refine j_iload_n X dJ9_min_7cf53_0 (q := 1) rfl 0 rfl ?_
  refine j_iload_n X dJ9_min_7cf53_1 (q := 2) rfl 1 rfl ?_
  refine j_icmp_gt X (tgt := 9) dJ9_min_7cf53_2 (by decide) (q := 5) rfl (by omega) (by omega) (fun c_2 => ?_) (fun c_2 => ?_)
  · skip
    refine j_iload_n X dJ9_min_7cf53_9 (q := 10) rfl 1 rfl ?_
    exact j_iret X rfl dJ9_min_7cf53_10 (⟨by rw [if_pos (by omega)], rfl⟩) (by decide) (by decide)
  · skip
    refine j_iload_n X dJ9_min_7cf53_5 (q := 6) rfl 0 rfl ?_
    refine j_goto X (tgt := 10) dJ9_min_7cf53_6 (by decide) ?_
    exact j_iret X rfl dJ9_min_7cf53_10 (⟨by rw [if_neg (by omega)], rfl⟩) (by decide) (by decide)

set_option maxRecDepth 100000 in
set_option maxHeartbeats 4000000 in
theorem c_J9_floorDiv_f86c9 {l : Launch} (hlt : l.stackTraces = false) {D : va_G} {ca : Nat → ClassId} {base : Nat} {w : Wd} (x y : Int) (hx : -9000000000000000000 ≤ x ∧ x ≤ 9000000000000000000) (hy : 1 ≤ y ∧ y ≤ 9000000000000000000) : CT l D ca base yJ9_floorDiv_f86c9 cJ9_floorDiv_f86c9 6 (some .long) 0 0 0 [.long (iL (x)), .long (iL (y))] w (fun v w' => v = some (.long (iL (x / y))) ∧ w = w') (fun _ _ => False) := by
  refine CT.mk hlt (by decide +kernel) (by first | exact Nat.le_of_ble_eq_true rfl | simp [lg_sl, cat_rf, cat_i, cat_l, cat_r]) ?_
  intro p e s m args below meth c X htab
  rw [show lv_args 0 [.long (iL (x)), .long (iL (y))] = [(0, .long (iL (x))), (2, .long (iL (y)))] from by first | rfl | simp [lv_args, cat_rf, cat_i, cat_l, cat_r]]
  obtain ⟨z, hz, ez, sz⟩ := xor_sign (x := x) (y := y) (by omega) (by omega)
  have hm := Int.mul_tdiv_add_tmod x y
  have hml : Int.natAbs (x.tdiv y * y) ≤ Int.natAbs x := by rw [Int.natAbs_mul, Int.natAbs_tdiv]; exact Nat.div_mul_le_self _ _
  have hdl : Int.natAbs (x.tdiv y) ≤ Int.natAbs x := by rw [Int.natAbs_tdiv]; exact Nat.div_le_self _ _
  have hfd := fdiv_lem (x := x) hy.1
  refine j_lload_n X dJ9_floorDiv_f86c9_0 (q := 1) rfl 0 rfl ?_
  refine j_lload_n X dJ9_floorDiv_f86c9_1 (q := 2) rfl 1 rfl ?_
  refine j_ldiv X (by omega) (by omega) dJ9_floorDiv_f86c9_2 (q := 3) rfl ?_
  refine j_lstore X (i := 4) dJ9_floorDiv_f86c9_3 (by decide) (q := 5) rfl (lv' := [(4, .long (iL (Int.tdiv (x) (y)))), (0, .long (iL (x))), (2, .long (iL (y)))]) (by first | rfl | simp [cat_rf, cat_i, cat_l, cat_r]) ?_
  refine j_lload_n X dJ9_floorDiv_f86c9_5 (q := 6) rfl 1 rfl ?_
  refine j_lload_n X dJ9_floorDiv_f86c9_6 (q := 7) rfl 2 rfl ?_
  refine j_lxor X dJ9_floorDiv_f86c9_7 (q := 8) rfl ?_
  rw [ez]
  refine j_lconst X (a := 0) (by decide +kernel) dJ9_floorDiv_f86c9_8 (q := 9) rfl ?_
  refine j_lcmp X (by omega) (by omega) dJ9_floorDiv_f86c9_9 (q := 10) rfl ?_
  refine j_if_ge X (tgt := 27) dJ9_floorDiv_f86c9_10 (by decide) (q := 13) rfl (cmpI_r _ _) (fun c_10 => ?_) (fun c_10 => ?_)
  · skip
    refine j_lload X dJ9_floorDiv_f86c9_27 (q := 29) rfl 0 rfl ?_
    exact j_lret X rfl dJ9_floorDiv_f86c9_29 (⟨by rw [hfd, if_neg (fun h => absurd (sz.mpr h.1) (Int.not_lt.mpr (cmpI_ge.mp c_10)))], rfl⟩) (by decide) (by decide)
  · skip
    refine j_lload X dJ9_floorDiv_f86c9_13 (q := 15) rfl 0 rfl ?_
    refine j_lload_n X dJ9_floorDiv_f86c9_15 (q := 16) rfl 2 rfl ?_
    refine j_lmul X dJ9_floorDiv_f86c9_16 (q := 17) rfl ?_
    refine j_lload_n X dJ9_floorDiv_f86c9_17 (q := 18) rfl 1 rfl ?_
    refine j_lcmp X (by omega) (by omega) dJ9_floorDiv_f86c9_18 (q := 19) rfl ?_
    refine j_if_eq X (tgt := 27) dJ9_floorDiv_f86c9_19 (by decide) (q := 22) rfl (cmpI_r _ _) (fun c_19 => ?_) (fun c_19 => ?_)
    · skip
      refine j_lload X dJ9_floorDiv_f86c9_27 (q := 29) rfl 0 rfl ?_
      exact j_lret X rfl dJ9_floorDiv_f86c9_29 (⟨by rw [hfd, if_neg (fun h => h.2 (cmpI_0.mp c_19))], rfl⟩) (by decide) (by decide)
    · skip
      refine j_lload X dJ9_floorDiv_f86c9_22 (q := 24) rfl 0 rfl ?_
      refine j_lconst X (a := 1) (by decide +kernel) dJ9_floorDiv_f86c9_24 (q := 25) rfl ?_
      refine j_lsub X dJ9_floorDiv_f86c9_25 (q := 26) rfl ?_
      exact j_lret X rfl dJ9_floorDiv_f86c9_26 (⟨by rw [hfd, if_pos ⟨sz.mp (cmpI_lt.mp c_10), fun h => c_19 (cmpI_0.mpr h)⟩], rfl⟩) (by decide) (by decide)

set_option maxRecDepth 100000 in
set_option maxHeartbeats 4000000 in
theorem c_X3_isInChain {l : Launch} (hlt : l.stackTraces = false) {D : va_G} {ca : Nat → ClassId} {base : Nat} {ad : Nat → Int → Nat} {n nc nm : Int} {S : St} {w : Wd} (hC : CW base ca ad n nc nm S w) (hI : IC n nc nm S) (i u : Int) (hi : 0 ≤ i ∧ i < n) (hu : -1 ≤ u ∧ u < n) : CT l D ca base yX3_isInChain cX3_isInChain 3 (some .boolean) 0 0 0 [va_rf (pt (ad 1) (i)), va_rf (pt (ad 1) (u))] w (fun v w' => v = some (.int (iI (inCh (S 14) 12 u i))) ∧ w = w') (fun _ _ => False) := by
  obtain ⟨hn, hnc, hnm, e3, e4, e5, h6, h7, h8⟩ := hI.top
  refine CT.mk hlt (by decide +kernel) (by first | exact Nat.le_of_ble_eq_true rfl | simp [lg_sl, cat_rf, cat_i, cat_l, cat_r]) ?_
  intro p e s m args below meth c X htab
  rw [show lv_args 0 [va_rf (pt (ad 1) (i)), va_rf (pt (ad 1) (u))] = [(0, va_rf (pt (ad 1) (i))), (1, va_rf (pt (ad 1) (u)))] from by first | rfl | simp [lv_args, cat_rf, cat_i, cat_l, cat_r]]
  refine j_aloadq_n X dX3_isInChain_0 (q := 1) rfl 1 rfl ?_
  refine j_astoreq_n X (i := 2) dX3_isInChain_1 rfl (by decide) (q := 2) rfl (lv' := [(2, va_rf (pt (ad 1) (u))), (0, va_rf (pt (ad 1) (i))), (1, va_rf (pt (ad 1) (u)))]) (by first | rfl | simp [cat_rf, cat_i, cat_l, cat_r]) ?_
  have loop : ∀ (kk : Nat) (a : Int), (-1 ≤ a ∧ a < n) → ends (S 14) kk a → inCh (S 14) 12 u i = inCh (S 14) kk a i → J p l e (Rm 0 0 0) s m args below meth c (vx_MQ below (Qn D base (fun v w' => v = some (.int (iI (inCh (S 14) 12 u i))) ∧ w = w')) (Xn D base (fun _ _ => False)) args s 0 0 (fun q => base ≤ q)) D base 3 0 0 2 [(0, va_rf (pt (ad 1) (i))), (1, va_rf (pt (ad 1) (u))), (2, va_rf (pt (ad 1) (a)))] [] w := by
    intro kk
    induction kk using Nat.strongRecOn with
    | ind kk ih =>
      intro a ha hk hv
      refine j_aloadq_n X dX3_isInChain_2 (q := 3) rfl 2 rfl ?_
      refine j_ifnullp X (tgt := 21) dX3_isInChain_3 (by decide) (q := 6) rfl (fun c_3 => ?_) (fun c_3 => ?_)
      · skip
        refine j_iconst X (a := 0) dX3_isInChain_21 (q := 22) rfl ?_
        exact j_zret X rfl (Or.inl rfl) dX3_isInChain_22 (⟨by rw [hv, inCh_n c_3], rfl⟩) (by decide) (by decide)
      · skip
        obtain ⟨f_1_0, f_1_1, f_1_2, f_1_3, f_1_4, f_1_5, f_1_6, f_1_7, f_1_8⟩ := hI.ins c_3 ha.2
        obtain ⟨j9, rfl, hk9⟩ := ends_pos hk c_3
        refine j_aloadq_n X dX3_isInChain_6 (q := 7) rfl 2 rfl ?_
        refine j_aloadq_n X dX3_isInChain_7 (q := 8) rfl 0 rfl ?_
        refine j_acmp_ne X (tgt := 13) dX3_isInChain_8 (by decide) (q := 11) rfl (fun c_8 => ?_) (fun c_8 => ?_)
        · skip
          refine j_aloadq_n X dX3_isInChain_13 (q := 14) rfl 2 rfl ?_
          refine j_getp X (v := va_rf (pt (ad 1) (S 14 a))) fl_X3_50 c_3 (hC.ins c_3 ha.2) rfl dX3_isInChain_14 (q := 17) rfl ?_
          refine j_astoreq_n X (i := 2) dX3_isInChain_17 rfl (by decide) (q := 18) rfl (lv' := [(2, va_rf (pt (ad 1) (S 14 a))), (0, va_rf (pt (ad 1) (i))), (1, va_rf (pt (ad 1) (u)))]) (by first | rfl | simp [cat_rf, cat_i, cat_l, cat_r]) ?_
          refine j_goto X (tgt := 2) dX3_isInChain_18 (by decide) ?_
          exact j_lv (ih j9 (by omega) (S 14 a) (by omega) hk9 (hv.trans (inCh_s c_3 (fun z => c_8 (by rw [z]))))) [1, 2, 0] rfl
        · skip
          refine j_iconst X (a := 1) dX3_isInChain_11 (q := 12) rfl ?_
          exact j_zret X rfl (Or.inr rfl) dX3_isInChain_12 (⟨by rw [hv, inCh_e c_3 ((pt_eq (fun _ _ => hC.inj1) (by omega) (by omega)).mp c_8)], rfl⟩) (by decide) (by decide)
  exact j_lv (loop 12 u hu (hI.ends hu.1 hu.2) rfl) [1, 2, 0] rfl
