set_option maxRecDepth 100000 in
set_option maxHeartbeats 4000000 in
theorem c_X3_today {l : Launch} (hlt : l.stackTraces = false) {D : va_G} {ca : Nat → ClassId} {base : Nat} {ad : Nat → Int → Nat} {n nc nm : Int} {S : St} {w : Wd} (hC : CW base ca ad n nc nm S w) (hI : IC n nc nm S) : CT l D ca base yX3_today cX3_today 1 (some .int) 0 0 0 [.ref (ad 0 0)] w (fun v w' => v = some (.int (iI (S 7 0))) ∧ w = w') (fun _ _ => False) := by
  obtain ⟨hn, hnc, hnm, e3, e4, e5, h6, h7, h8⟩ := hI.top
  refine CT.mk hlt (by decide +kernel) (by first | exact Nat.le_of_ble_eq_true rfl | simp [lg_sl, cat_rf, cat_i, cat_l, cat_r]) ?_
  intro p e s m args below meth c X htab
  rw [show lv_args 0 [.ref (ad 0 0)] = [(0, .ref (ad 0 0))] from by first | rfl | simp [lv_args, cat_rf, cat_i, cat_l, cat_r]]
  refine j_aload_n X dX3_today_0 (q := 1) rfl 0 rfl ?_
  refine j_get X (v := .int (iI (S 7 0))) fl_X3_69 hC.cal rfl dX3_today_1 (q := 4) rfl ?_
  exact j_iret X rfl dX3_today_4 (⟨rfl, rfl⟩) (by decide) (by decide)

set_option maxRecDepth 100000 in
set_option maxHeartbeats 4000000 in
theorem c_X3_instruments {l : Launch} (hlt : l.stackTraces = false) {D : va_G} {ca : Nat → ClassId} {base : Nat} {ad : Nat → Int → Nat} {n nc nm : Int} {S : St} {w : Wd} (hC : CW base ca ad n nc nm S w) (hI : IC n nc nm S) : CT l D ca base yX3_instruments cX3_instruments 1 (some .int) 0 0 0 [.ref (ad 0 0)] w (fun v w' => v = some (.int (iI (S 3 0))) ∧ w = w') (fun _ _ => False) := by
  obtain ⟨hn, hnc, hnm, e3, e4, e5, h6, h7, h8⟩ := hI.top
  refine CT.mk hlt (by decide +kernel) (by first | exact Nat.le_of_ble_eq_true rfl | simp [lg_sl, cat_rf, cat_i, cat_l, cat_r]) ?_
  intro p e s m args below meth c X htab
  rw [show lv_args 0 [.ref (ad 0 0)] = [(0, .ref (ad 0 0))] from by first | rfl | simp [lv_args, cat_rf, cat_i, cat_l, cat_r]]
  refine j_aload_n X dX3_instruments_0 (q := 1) rfl 0 rfl ?_
  refine j_get X (v := .int (iI (S 3 0))) fl_X3_38 hC.cal rfl dX3_instruments_1 (q := 4) rfl ?_
  exact j_iret X rfl dX3_instruments_4 (⟨rfl, rfl⟩) (by decide) (by decide)

set_option maxRecDepth 100000 in
set_option maxHeartbeats 4000000 in
theorem c_X3_measurements {l : Launch} (hlt : l.stackTraces = false) {D : va_G} {ca : Nat → ClassId} {base : Nat} {ad : Nat → Int → Nat} {n nc nm : Int} {S : St} {w : Wd} (hC : CW base ca ad n nc nm S w) (hI : IC n nc nm S) : CT l D ca base yX3_measurements cX3_measurements 1 (some .int) 0 0 0 [.ref (ad 0 0)] w (fun v w' => v = some (.int (iI (S 4 0))) ∧ w = w') (fun _ _ => False) := by
  obtain ⟨hn, hnc, hnm, e3, e4, e5, h6, h7, h8⟩ := hI.top
  refine CT.mk hlt (by decide +kernel) (by first | exact Nat.le_of_ble_eq_true rfl | simp [lg_sl, cat_rf, cat_i, cat_l, cat_r]) ?_
  intro p e s m args below meth c X htab
  rw [show lv_args 0 [.ref (ad 0 0)] = [(0, .ref (ad 0 0))] from by first | rfl | simp [lv_args, cat_rf, cat_i, cat_l, cat_r]]
  refine j_aload_n X dX3_measurements_0 (q := 1) rfl 0 rfl ?_
  refine j_get X (v := .int (iI (S 4 0))) fl_X3_113 hC.cal rfl dX3_measurements_1 (q := 4) rfl ?_
  exact j_iret X rfl dX3_measurements_4 (⟨rfl, rfl⟩) (by decide) (by decide)

set_option maxRecDepth 100000 in
set_option maxHeartbeats 4000000 in
theorem c_X3_calledBack {l : Launch} (hlt : l.stackTraces = false) {D : va_G} {ca : Nat → ClassId} {base : Nat} {ad : Nat → Int → Nat} {n nc nm : Int} {S : St} {w : Wd} (hC : CW base ca ad n nc nm S w) (hI : IC n nc nm S) : CT l D ca base yX3_calledBack cX3_calledBack 1 (some .int) 0 0 0 [.ref (ad 0 0)] w (fun v w' => v = some (.int (iI (S 6 0))) ∧ w = w') (fun _ _ => False) := by
  obtain ⟨hn, hnc, hnm, e3, e4, e5, h6, h7, h8⟩ := hI.top
  refine CT.mk hlt (by decide +kernel) (by first | exact Nat.le_of_ble_eq_true rfl | simp [lg_sl, cat_rf, cat_i, cat_l, cat_r]) ?_
  intro p e s m args below meth c X htab
  rw [show lv_args 0 [.ref (ad 0 0)] = [(0, .ref (ad 0 0))] from by first | rfl | simp [lv_args, cat_rf, cat_i, cat_l, cat_r]]
  refine j_aload_n X dX3_calledBack_0 (q := 1) rfl 0 rfl ?_
  refine j_get X (v := .int (iI (S 6 0))) fl_X3_224 hC.cal rfl dX3_calledBack_1 (q := 4) rfl ?_
  exact j_iret X rfl dX3_calledBack_4 (⟨rfl, rfl⟩) (by decide) (by decide)

set_option maxRecDepth 100000 in
set_option maxHeartbeats 4000000 in
theorem c_X3_isNoError {l : Launch} (hlt : l.stackTraces = false) {D : va_G} {ca : Nat → ClassId} {base : Nat} {ad : Nat → Int → Nat} {n nc nm : Int} {S : St} {w : Wd} (hC : CW base ca ad n nc nm S w) (hI : IC n nc nm S) (z : Int) (hz : -2147483648 ≤ z ∧ z ≤ 2147483647) : CT l D ca base yX3_isNoError cX3_isNoError 1 (some .boolean) 0 0 0 [.int (iI (z))] w (fun v w' => v = some (.int (iI (tf (z < -99999 ∨ 99999 < z)))) ∧ w = w') (fun _ _ => False) := by
  obtain ⟨hn, hnc, hnm, e3, e4, e5, h6, h7, h8⟩ := hI.top
  refine CT.mk hlt (by decide +kernel) (by first | exact Nat.le_of_ble_eq_true rfl | simp [lg_sl, cat_rf, cat_i, cat_l, cat_r]) ?_
  intro p e s m args below meth c X htab
  rw [show lv_args 0 [.int (iI (z))] = [(0, .int (iI (z)))] from by first | rfl | simp [lv_args, cat_rf, cat_i, cat_l, cat_r]]
  refine j_iload_n X dX3_isNoError_0 (q := 1) rfl 0 rfl ?_
  refine j_ldc X (a := -99999) ko_X3_121 rfl dX3_isNoError_1 (q := 3) rfl ?_
  refine j_icmp_lt X (tgt := 12) dX3_isNoError_3 (by decide) (q := 6) rfl (by omega) (by omega) (fun c_3 => ?_) (fun c_3 => ?_)
  · skip
    refine j_iconst X (a := 1) dX3_isNoError_12 (q := 13) rfl ?_
    refine j_goto X (tgt := 17) dX3_isNoError_13 (by decide) ?_
    exact j_zret X rfl (Or.inr rfl) dX3_isNoError_17 (⟨by rw [tf_t (by omega)], rfl⟩) (by decide) (by decide)
  · skip
    refine j_iload_n X dX3_isNoError_6 (q := 7) rfl 0 rfl ?_
    refine j_ldc X (a := 99999) ko_X3_122 rfl dX3_isNoError_7 (q := 9) rfl ?_
    refine j_icmp_le X (tgt := 16) dX3_isNoError_9 (by decide) (q := 12) rfl (by omega) (by omega) (fun c_9 => ?_) (fun c_9 => ?_)
    · skip
      refine j_iconst X (a := 0) dX3_isNoError_16 (q := 17) rfl ?_
      exact j_zret X rfl (Or.inl rfl) dX3_isNoError_17 (⟨by rw [tf_f (by omega)], rfl⟩) (by decide) (by decide)
    · skip
      refine j_iconst X (a := 1) dX3_isNoError_12 (q := 13) rfl ?_
      refine j_goto X (tgt := 17) dX3_isNoError_13 (by decide) ?_
      exact j_zret X rfl (Or.inr rfl) dX3_isNoError_17 (⟨by rw [tf_t (by omega)], rfl⟩) (by decide) (by decide)

set_option maxRecDepth 100000 in
set_option maxHeartbeats 4000000 in
theorem c_X3_known {l : Launch} (hlt : l.stackTraces = false) {D : va_G} {ca : Nat → ClassId} {base : Nat} {ad : Nat → Int → Nat} {n nc nm : Int} {S : St} {w : Wd} (hC : CW base ca ad n nc nm S w) (hI : IC n nc nm S) (z : Int) (hz : -2147483648 ≤ z ∧ z ≤ 2147483647) : CT l D ca base yX3_known cX3_known 3 (some (.object "Calibratory$Instrument")) 0 1 6 [.ref (ad 0 0), .int (iI (z))] w (fun v w' => (0 ≤ z ∧ z < n) ∧ v = some (va_rf (pt (ad 1) z)) ∧ w = w') (fun E w' => ¬ (0 ≤ z ∧ z < n) ∧ E = nIO ∧ w = w') := by
  obtain ⟨hn, hnc, hnm, e3, e4, e5, h6, h7, h8⟩ := hI.top
  refine CT.mk hlt (by decide +kernel) (by first | exact Nat.le_of_ble_eq_true rfl | simp [lg_sl, cat_rf, cat_i, cat_l, cat_r]) ?_
  intro p e s m args below meth c X htab
  rw [show lv_args 0 [.ref (ad 0 0), .int (iI (z))] = [(0, .ref (ad 0 0)), (1, .int (iI (z)))] from by first | rfl | simp [lv_args, cat_rf, cat_i, cat_l, cat_r]]
  refine j_iload_n X dX3_known_0 (q := 1) rfl 1 rfl ?_
  refine j_if_lt X (tgt := 13) dX3_known_1 (by decide) (q := 4) rfl (by omega) (fun c_1 => ?_) (fun c_1 => ?_)
  · skip
    exact j_throw X htab ts_72_74 dX3_known_13 dX3_known_16 dX3_known_17 dX3_known_19 dX3_known_22 (by decide) (by decide) (by decide) (by decide) (⟨by (try split at *) <;> omega, rfl, rfl⟩) (by decide) (by decide)
  · skip
    refine j_iload_n X dX3_known_4 (q := 5) rfl 1 rfl ?_
    refine j_aload_n X dX3_known_5 (q := 6) rfl 0 rfl ?_
    refine j_get X (v := .ref (ad 0 1)) fl_X3_11 hC.cal rfl dX3_known_6 (q := 9) rfl ?_
    refine j_alen X (t := 2) (N := 12) rfl hC.told rfl dX3_known_9 (q := 10) rfl ?_
    refine j_icmp_lt X (tgt := 23) dX3_known_10 (by decide) (q := 13) rfl (by omega) (by omega) (fun c_10 => ?_) (fun c_10 => ?_)
    · skip
      refine j_aload_n X dX3_known_23 (q := 24) rfl 0 rfl ?_
      refine j_get X (v := .ref (ad 0 1)) fl_X3_11 hC.cal rfl dX3_known_24 (q := 27) rfl ?_
      refine j_iload_n X dX3_known_27 (q := 28) rfl 1 rfl ?_
      refine j_aald X (t := 2) (i := z) rfl hC.told (by omega) (by decide) dX3_known_28 (q := 29) rfl ?_
      rw [rw_pt (by omega)]
      refine j_astoreq_n X (i := 2) dX3_known_29 rfl (by decide) (q := 30) rfl (lv' := [(2, va_rf (pt (ad 1) (if z < S 3 0 then z else -1))), (0, .ref (ad 0 0)), (1, .int (iI (z)))]) (by first | rfl | simp [cat_rf, cat_i, cat_l, cat_r]) ?_
      refine j_aloadq_n X dX3_known_30 (q := 31) rfl 0 rfl ?_
      refine j_ifnonnullp X (tgt := 44) dX3_known_31 (by decide) (q := 34) rfl (fun c_31 => ?_) (fun c_31 => ?_)
      · skip
        refine j_aloadq_n X dX3_known_44 (q := 45) rfl 0 rfl ?_
        exact j_aret X rfl dX3_known_45 (⟨by split at * <;> omega, by rw [if_pos (by split at * <;> omega)], rfl⟩) (by decide) (by decide)
      · skip
        exact j_throw X htab ts_72_74 dX3_known_34 dX3_known_37 dX3_known_38 dX3_known_40 dX3_known_43 (by decide) (by decide) (by decide) (by decide) (⟨by (try split at *) <;> omega, rfl, rfl⟩) (by decide) (by decide)
    · skip
      exact j_throw X htab ts_72_74 dX3_known_13 dX3_known_16 dX3_known_17 dX3_known_19 dX3_known_22 (by decide) (by decide) (by decide) (by decide) (⟨by (try split at *) <;> omega, rfl, rfl⟩) (by decide) (by decide)

set_option maxRecDepth 100000 in
set_option maxHeartbeats 4000000 in
theorem c_X3_knownOrNone {l : Launch} (hlt : l.stackTraces = false) {D : va_G} {ca : Nat → ClassId} {base : Nat} {ad : Nat → Int → Nat} {n nc nm : Int} {S : St} {w : Wd} (hC : CW base ca ad n nc nm S w) (hI : IC n nc nm S) (z : Int) (hz : -2147483648 ≤ z ∧ z ≤ 2147483647) : CT l D ca base yX3_knownOrNone cX3_knownOrNone 2 (some (.object "Calibratory$Instrument")) 1 1 6 [.ref (ad 0 0), .int (iI (z))] w (fun v w' => (z = -1 ∨ (0 ≤ z ∧ z < n)) ∧ v = some (va_rf (pt (ad 1) z)) ∧ w = w') (fun E w' => ¬ (z = -1 ∨ (0 ≤ z ∧ z < n)) ∧ E = nIO ∧ w = w') := by
  obtain ⟨hn, hnc, hnm, e3, e4, e5, h6, h7, h8⟩ := hI.top
  refine CT.mk hlt (by decide +kernel) (by first | exact Nat.le_of_ble_eq_true rfl | simp [lg_sl, cat_rf, cat_i, cat_l, cat_r]) ?_
  intro p e s m args below meth c X htab
  rw [show lv_args 0 [.ref (ad 0 0), .int (iI (z))] = [(0, .ref (ad 0 0)), (1, .int (iI (z)))] from by first | rfl | simp [lv_args, cat_rf, cat_i, cat_l, cat_r]]
  refine j_iload_n X dX3_knownOrNone_0 (q := 1) rfl 1 rfl ?_
  refine j_iconst X (a := -1) dX3_knownOrNone_1 (q := 2) rfl ?_
  refine j_icmp_ne X (tgt := 9) dX3_knownOrNone_2 (by decide) (q := 5) rfl (by omega) (by omega) (fun c_2 => ?_) (fun c_2 => ?_)
  · skip
    refine j_aload_n X dX3_knownOrNone_9 (q := 10) rfl 0 rfl ?_
    refine j_iload_n X dX3_knownOrNone_10 (q := 11) rfl 1 rfl ?_
    refine j_callV X (As := [.int (iI (z))]) (st := []) hC.cal rfl (c_X3_known hlt hC hI z hz) sv_X3_54 (by decide) rfl (by first | decide | exact Nat.le_of_ble_eq_true rfl | simp [cat_rf, cat_i, cat_l, cat_r]) dX3_knownOrNone_11 (by decide) (fun E w' h => jx_out X htab ⟨by omega, h.2.1, h.2.2⟩ (by decide) (by decide)) ?_
    rintro v9 w9 ⟨k1, rfl, rfl⟩
    refine j_st (st := [va_rf (pt (ad 1) (z))]) ?_
    exact j_aret X rfl dX3_knownOrNone_14 (⟨by omega, rfl, rfl⟩) (by decide) (by decide)
  · skip
    refine j_null X dX3_knownOrNone_5 (q := 6) rfl ?_
    refine j_goto X (tgt := 14) dX3_knownOrNone_6 (by decide) ?_
    exact j_aret X rfl dX3_knownOrNone_14 (⟨by omega, by rw [pt_n (by omega)], rfl⟩) (by decide) (by decide)

set_option maxRecDepth 100000 in
set_option maxHeartbeats 4000000 in
theorem c_X3_numberOf {l : Launch} (hlt : l.stackTraces = false) {D : va_G} {ca : Nat → ClassId} {base : Nat} {ad : Nat → Int → Nat} {n nc nm : Int} {S : St} {w : Wd} (hC : CW base ca ad n nc nm S w) (hI : IC n nc nm S) (u : Int) (hu : -1 ≤ u ∧ u < n) : CT l D ca base yX3_numberOf cX3_numberOf 1 (some .int) 0 0 0 [va_rf (pt (ad 1) (u))] w (fun v w' => v = some (.int (iI (u))) ∧ w = w') (fun _ _ => False) := by
  obtain ⟨hn, hnc, hnm, e3, e4, e5, h6, h7, h8⟩ := hI.top
  refine CT.mk hlt (by decide +kernel) (by first | exact Nat.le_of_ble_eq_true rfl | simp [lg_sl, cat_rf, cat_i, cat_l, cat_r]) ?_
  intro p e s m args below meth c X htab
  rw [show lv_args 0 [va_rf (pt (ad 1) (u))] = [(0, va_rf (pt (ad 1) (u)))] from by first | rfl | simp [lv_args, cat_rf, cat_i, cat_l, cat_r]]
  refine j_aloadq_n X dX3_numberOf_0 (q := 1) rfl 0 rfl ?_
  refine j_ifnonnullp X (tgt := 8) dX3_numberOf_1 (by decide) (q := 4) rfl (fun c_1 => ?_) (fun c_1 => ?_)
  · skip
    obtain ⟨f_1_0, f_1_1, f_1_2, f_1_3, f_1_4, f_1_5, f_1_6, f_1_7, f_1_8⟩ := hI.ins c_1 (by omega)
    refine j_aloadq_n X dX3_numberOf_8 (q := 9) rfl 0 rfl ?_
    refine j_getp X (v := .int (iI (S 10 u))) fl_X3_77 c_1 (hC.ins c_1 (by omega)) rfl dX3_numberOf_9 (q := 12) rfl ?_
    exact j_iret X rfl dX3_numberOf_12 (⟨by congr 3 <;> omega, rfl⟩) (by decide) (by decide)
  · skip
    refine j_iconst X (a := -1) dX3_numberOf_4 (q := 5) rfl ?_
    refine j_goto X (tgt := 12) dX3_numberOf_5 (by decide) ?_
    exact j_iret X rfl dX3_numberOf_12 (⟨by congr 3 <;> omega, rfl⟩) (by decide) (by decide)

set_option maxRecDepth 100000 in
set_option maxHeartbeats 4000000 in
theorem c_X3_dueDay {l : Launch} (hlt : l.stackTraces = false) {D : va_G} {ca : Nat → ClassId} {base : Nat} {ad : Nat → Int → Nat} {n nc nm : Int} {S : St} {w : Wd} (hC : CW base ca ad n nc nm S w) (hI : IC n nc nm S) (u j : Int) (hu : 0 ≤ u ∧ u < n) (hj : 0 ≤ j ∧ j < nc) : CT l D ca base yX3_dueDay cX3_dueDay 2 (some .int) 0 0 0 [va_rf (pt (ad 1) (u)), va_rf (pt (ad 2) (j))] w (fun v w' => v = some (.int (iI (S 21 j + S 13 u))) ∧ w = w') (fun _ _ => False) := by
  obtain ⟨hn, hnc, hnm, e3, e4, e5, h6, h7, h8⟩ := hI.top
  refine CT.mk hlt (by decide +kernel) (by first | exact Nat.le_of_ble_eq_true rfl | simp [lg_sl, cat_rf, cat_i, cat_l, cat_r]) ?_
  intro p e s m args below meth c X htab
  rw [show lv_args 0 [va_rf (pt (ad 1) (u)), va_rf (pt (ad 2) (j))] = [(0, va_rf (pt (ad 1) (u))), (1, va_rf (pt (ad 2) (j)))] from by first | rfl | simp [lv_args, cat_rf, cat_i, cat_l, cat_r]]
  obtain ⟨f_2_0, f_2_1, f_2_2, f_2_3, f_2_4, f_2_5, f_2_6, f_2_7, f_2_8⟩ := hI.ins hu.1 hu.2
  obtain ⟨f_3_0, f_3_1, f_3_2, f_3_3, f_3_4, f_3_5, f_3_6, f_3_7, f_3_8, f_3_9⟩ := hI.kal hj.1 hj.2
  refine j_aloadq_n X dX3_dueDay_0 (q := 1) rfl 1 rfl ?_
  refine j_getp X (v := .int (iI (S 21 j))) fl_X3_149 hj.1 (hC.kal hj.1 hj.2) rfl dX3_dueDay_1 (q := 4) rfl ?_
  refine j_aloadq_n X dX3_dueDay_4 (q := 5) rfl 0 rfl ?_
  refine j_getp X (v := .int (iI (S 13 u))) fl_X3_146 hu.1 (hC.ins hu.1 hu.2) rfl dX3_dueDay_5 (q := 8) rfl ?_
  refine j_iadd X dX3_dueDay_8 (q := 9) rfl ?_
  exact j_iret X rfl dX3_dueDay_9 (⟨rfl, rfl⟩) (by decide) (by decide)
