theorem inF_b (S : St) (i : Int) : 0 ≤ inF S i ∧ inF S i ≤ 1 := tf_b _
set_option maxRecDepth 100000 in
set_option maxHeartbeats 4000000 in
theorem c_X3_isInForce {l : Launch} (hlt : l.stackTraces = false) {D : va_G} {ca : Nat → ClassId} {base : Nat} {ad : Nat → Int → Nat} {n nc nm : Int} {S : St} {w : Wd} (hC : CW base ca ad n nc nm S w) (hI : IC n nc nm S) (u : Int) (hu : 0 ≤ u ∧ u < n) : CT l D ca base yX3_isInForce cX3_isInForce 2 (some .boolean) 1 0 0 [.ref (ad 0 0), va_rf (pt (ad 1) (u))] w (fun v w' => v = some (.int (iI (inF S u))) ∧ w = w') (fun _ _ => False) := by
  obtain ⟨hn, hnc, hnm, e3, e4, e5, h6, h7, h8⟩ := hI.top
  refine CT.mk hlt (by decide +kernel) (by first | exact Nat.le_of_ble_eq_true rfl | simp [lg_sl, cat_rf, cat_i, cat_l, cat_r]) ?_
  intro p e s m args below meth c X htab
  rw [show lv_args 0 [.ref (ad 0 0), va_rf (pt (ad 1) (u))] = [(0, .ref (ad 0 0)), (1, va_rf (pt (ad 1) (u)))] from by first | rfl | simp [lv_args, cat_rf, cat_i, cat_l, cat_r]]
  obtain ⟨f_1_0, f_1_1, f_1_2, f_1_3, f_1_4, f_1_5, f_1_6, f_1_7, f_1_8⟩ := hI.ins hu.1 hu.2
  refine j_aloadq_n X dX3_isInForce_0 (q := 1) rfl 1 rfl ?_
  refine j_getp X (v := va_rf (pt (ad 2) (S 15 u))) fl_X3_95 hu.1 (hC.ins hu.1 hu.2) rfl dX3_isInForce_1 (q := 4) rfl ?_
  refine j_ifnullp X (tgt := 36) dX3_isInForce_4 (by decide) (q := 7) rfl (fun c_4 => ?_) (fun c_4 => ?_)
  · skip
    refine j_iconst X (a := 0) dX3_isInForce_36 (q := 37) rfl ?_
    exact j_zret X rfl (Or.inl rfl) dX3_isInForce_37 (⟨by rw [inF, tf_f (by omega)], rfl⟩) (by decide) (by decide)
  · skip
    obtain ⟨f_2_0, f_2_1, f_2_2, f_2_3, f_2_4, f_2_5, f_2_6, f_2_7, f_2_8, f_2_9⟩ := hI.kal c_4 (by omega)
    refine j_aload_n X dX3_isInForce_7 (q := 8) rfl 0 rfl ?_
    refine j_get X (v := .int (iI (S 7 0))) fl_X3_69 hC.cal rfl dX3_isInForce_8 (q := 11) rfl ?_
    refine j_aloadq_n X dX3_isInForce_11 (q := 12) rfl 1 rfl ?_
    refine j_aloadq_n X dX3_isInForce_12 (q := 13) rfl 1 rfl ?_
    refine j_getp X (v := va_rf (pt (ad 2) (S 15 u))) fl_X3_95 hu.1 (hC.ins hu.1 hu.2) rfl dX3_isInForce_13 (q := 16) rfl ?_
    refine j_callS X (As := [va_rf (pt (ad 1) (u)), va_rf (pt (ad 2) (S 15 u))]) (st := [.int (iI (S 7 0))])  (c_X3_dueDay hlt hC hI u (S 15 u) hu ⟨c_4, by omega⟩) ss_X3_182 (by decide) rfl (by first | decide | exact Nat.le_of_ble_eq_true rfl | simp [cat_rf, cat_i, cat_l, cat_r]) dX3_isInForce_16 (by decide) (fun _ _ h => h.elim) ?_
    rintro v9 w9 ⟨rfl, rfl⟩
    refine j_st (st := [.int (iI (S 21 (S 15 u) + S 13 u)), .int (iI (S 7 0))]) ?_
    refine j_icmp_gt X (tgt := 36) dX3_isInForce_19 (by decide) (q := 22) rfl (by omega) (by omega) (fun c_19 => ?_) (fun c_19 => ?_)
    · skip
      refine j_iconst X (a := 0) dX3_isInForce_36 (q := 37) rfl ?_
      exact j_zret X rfl (Or.inl rfl) dX3_isInForce_37 (⟨by rw [inF, tf_f (by omega)], rfl⟩) (by decide) (by decide)
    · skip
      refine j_aloadq_n X dX3_isInForce_22 (q := 23) rfl 1 rfl ?_
      refine j_getp X (v := va_rf (pt (ad 2) (S 15 u))) fl_X3_95 hu.1 (hC.ins hu.1 hu.2) rfl dX3_isInForce_23 (q := 26) rfl ?_
      refine j_getp X (v := .int (iI (S 26 (S 15 u)))) fl_X3_186 c_4 (hC.kal c_4 (by omega)) rfl dX3_isInForce_26 (q := 29) rfl ?_
      refine j_if_ne X (tgt := 36) dX3_isInForce_29 (by decide) (q := 32) rfl (by omega) (fun c_29 => ?_) (fun c_29 => ?_)
      · skip
        refine j_iconst X (a := 0) dX3_isInForce_36 (q := 37) rfl ?_
        exact j_zret X rfl (Or.inl rfl) dX3_isInForce_37 (⟨by rw [inF, tf_f (by omega)], rfl⟩) (by decide) (by decide)
      · skip
        refine j_iconst X (a := 1) dX3_isInForce_32 (q := 33) rfl ?_
        refine j_goto X (tgt := 37) dX3_isInForce_33 (by decide) ?_
        exact j_zret X rfl (Or.inr rfl) dX3_isInForce_37 (⟨by rw [inF, tf_t (by omega)], rfl⟩) (by decide) (by decide)

set_option maxRecDepth 100000 in
set_option maxHeartbeats 4000000 in
theorem c_X3_firstOutOfForce {l : Launch} (hlt : l.stackTraces = false) {D : va_G} {ca : Nat → ClassId} {base : Nat} {ad : Nat → Int → Nat} {n nc nm : Int} {S : St} {w : Wd} (hC : CW base ca ad n nc nm S w) (hI : IC n nc nm S) (u : Int) (hu : -1 ≤ u ∧ u < n) : CT l D ca base yX3_firstOutOfForce cX3_firstOutOfForce 3 (some (.object "Calibratory$Instrument")) 2 0 0 [.ref (ad 0 0), va_rf (pt (ad 1) (u))] w (fun v w' => v = some (va_rf (pt (ad 1) (fof (S 14) (inF S) 12 u))) ∧ w = w') (fun _ _ => False) := by
  obtain ⟨hn, hnc, hnm, e3, e4, e5, h6, h7, h8⟩ := hI.top
  refine CT.mk hlt (by decide +kernel) (by first | exact Nat.le_of_ble_eq_true rfl | simp [lg_sl, cat_rf, cat_i, cat_l, cat_r]) ?_
  intro p e s m args below meth c X htab
  rw [show lv_args 0 [.ref (ad 0 0), va_rf (pt (ad 1) (u))] = [(0, .ref (ad 0 0)), (1, va_rf (pt (ad 1) (u)))] from by first | rfl | simp [lv_args, cat_rf, cat_i, cat_l, cat_r]]
  refine j_aloadq_n X dX3_firstOutOfForce_0 (q := 1) rfl 1 rfl ?_
  refine j_astoreq_n X (i := 2) dX3_firstOutOfForce_1 rfl (by decide) (q := 2) rfl (lv' := [(2, va_rf (pt (ad 1) (u))), (0, .ref (ad 0 0)), (1, va_rf (pt (ad 1) (u)))]) (by first | rfl | simp [cat_rf, cat_i, cat_l, cat_r]) ?_
  have loop : ∀ (kk : Nat) (a : Int), (-1 ≤ a ∧ a < n) → ends (S 14) kk a → fof (S 14) (inF S) 12 u = fof (S 14) (inF S) kk a → J p l e (Rm 2 0 0) s m args below meth c (vx_MQ below (Qn D base (fun v w' => v = some (va_rf (pt (ad 1) (fof (S 14) (inF S) 12 u))) ∧ w = w')) (Xn D base (fun _ _ => False)) args s 0 0 (fun q => base ≤ q)) D base 3 0 0 2 [(0, .ref (ad 0 0)), (2, va_rf (pt (ad 1) (a)))] [] w := by
    intro kk
    induction kk using Nat.strongRecOn with
    | ind kk ih =>
      intro a ha hk hv
      refine j_aloadq_n X dX3_firstOutOfForce_2 (q := 3) rfl 1 rfl ?_
      refine j_ifnullp X (tgt := 24) dX3_firstOutOfForce_3 (by decide) (q := 6) rfl (fun c_3 => ?_) (fun c_3 => ?_)
      · skip
        refine j_null X dX3_firstOutOfForce_24 (q := 25) rfl ?_
        exact j_aret X rfl dX3_firstOutOfForce_25 (⟨by rw [hv, fof_n c_3]; rfl, rfl⟩) (by decide) (by decide)
      · skip
        obtain ⟨f_3_0, f_3_1, f_3_2, f_3_3, f_3_4, f_3_5, f_3_6, f_3_7, f_3_8⟩ := hI.ins c_3 ha.2
        obtain ⟨j9, rfl, hk9⟩ := ends_pos hk c_3
        refine j_aload_n X dX3_firstOutOfForce_6 (q := 7) rfl 0 rfl ?_
        refine j_aloadq_n X dX3_firstOutOfForce_7 (q := 8) rfl 1 rfl ?_
        refine j_callV X (As := [va_rf (pt (ad 1) (a))]) (st := []) hC.cal rfl (c_X3_isInForce hlt hC hI a ⟨c_3, ha.2⟩) sv_X3_189 (by decide) rfl (by first | decide | exact Nat.le_of_ble_eq_true rfl | simp [cat_rf, cat_i, cat_l, cat_r]) dX3_firstOutOfForce_8 (by decide) (fun _ _ h => h.elim) ?_
        rintro v9 w9 ⟨rfl, rfl⟩
        refine j_st (st := [.int (iI (inF S a))]) ?_
        have hb9 := inF_b S a
        refine j_if_ne X (tgt := 16) dX3_firstOutOfForce_11 (by decide) (q := 14) rfl (by omega) (fun c_11 => ?_) (fun c_11 => ?_)
        · skip
          refine j_aloadq_n X dX3_firstOutOfForce_16 (q := 17) rfl 1 rfl ?_
          refine j_getp X (v := va_rf (pt (ad 1) (S 14 a))) fl_X3_50 c_3 (hC.ins c_3 ha.2) rfl dX3_firstOutOfForce_17 (q := 20) rfl ?_
          refine j_astoreq_n X (i := 2) dX3_firstOutOfForce_20 rfl (by decide) (q := 21) rfl (lv' := [(2, va_rf (pt (ad 1) (S 14 a))), (0, .ref (ad 0 0))]) (by first | rfl | simp [cat_rf, cat_i, cat_l, cat_r]) ?_
          refine j_goto X (tgt := 2) dX3_firstOutOfForce_21 (by decide) ?_
          exact j_lv (ih j9 (by omega) (S 14 a) (by omega) hk9 (hv.trans (fof_s c_3 c_11))) [1, 0] rfl
        · skip
          refine j_aloadq_n X dX3_firstOutOfForce_14 (q := 15) rfl 1 rfl ?_
          exact j_aret X rfl dX3_firstOutOfForce_15 (⟨by rw [hv, fof_e c_3 c_11], rfl⟩) (by decide) (by decide)
  exact j_lv (loop 12 u hu (hI.ends hu.1 hu.2) rfl) [1, 0] rfl

set_option maxRecDepth 100000 in
set_option maxHeartbeats 4000000 in
theorem c_X3_intervalOf {l : Launch} (hlt : l.stackTraces = false) {D : va_G} {ca : Nat → ClassId} {base : Nat} {ad : Nat → Int → Nat} {n nc nm : Int} {S : St} {w : Wd} (hC : CW base ca ad n nc nm S w) (hI : IC n nc nm S) (z : Int) (hz : -2147483648 ≤ z ∧ z ≤ 2147483647) : CT l D ca base yX3_intervalOf cX3_intervalOf 2 (some .int) 2 1 6 [.ref (ad 0 0), .int (iI (z))] w (fun v w' => (0 ≤ z ∧ z < n) ∧ v = some (.int (iI (S 13 z))) ∧ w = w') (fun E w' => ¬ (0 ≤ z ∧ z < n) ∧ E = nIO ∧ w = w') := by
  obtain ⟨hn, hnc, hnm, e3, e4, e5, h6, h7, h8⟩ := hI.top
  refine CT.mk hlt (by decide +kernel) (by first | exact Nat.le_of_ble_eq_true rfl | simp [lg_sl, cat_rf, cat_i, cat_l, cat_r]) ?_
  intro p e s m args below meth c X htab
  rw [show lv_args 0 [.ref (ad 0 0), .int (iI (z))] = [(0, .ref (ad 0 0)), (1, .int (iI (z)))] from by first | rfl | simp [lv_args, cat_rf, cat_i, cat_l, cat_r]]
  refine j_aload_n X dX3_intervalOf_0 (q := 1) rfl 0 rfl ?_
  refine j_iload_n X dX3_intervalOf_1 (q := 2) rfl 1 rfl ?_
  refine j_callV X (As := [.int (iI (z))]) (st := []) hC.cal rfl (c_X3_known hlt hC hI z hz) sv_X3_54 (by decide) rfl (by first | decide | exact Nat.le_of_ble_eq_true rfl | simp [cat_rf, cat_i, cat_l, cat_r]) dX3_intervalOf_2 (by decide) (fun E w' h => jx_out X htab h (by decide) (by decide)) ?_
  rintro v9 w9 ⟨k1, rfl, rfl⟩
  refine j_st (st := [va_rf (pt (ad 1) (z))]) ?_
  obtain ⟨f_4_0, f_4_1, f_4_2, f_4_3, f_4_4, f_4_5, f_4_6, f_4_7, f_4_8⟩ := hI.ins k1.1 k1.2
  refine j_getp X (v := .int (iI (S 13 z))) fl_X3_146 k1.1 (hC.ins k1.1 k1.2) rfl dX3_intervalOf_5 (q := 8) rfl ?_
  exact j_iret X rfl dX3_intervalOf_8 (⟨k1, rfl, rfl⟩) (by decide) (by decide)

set_option maxRecDepth 100000 in
set_option maxHeartbeats 4000000 in
theorem c_X3_failures {l : Launch} (hlt : l.stackTraces = false) {D : va_G} {ca : Nat → ClassId} {base : Nat} {ad : Nat → Int → Nat} {n nc nm : Int} {S : St} {w : Wd} (hC : CW base ca ad n nc nm S w) (hI : IC n nc nm S) (z : Int) (hz : -2147483648 ≤ z ∧ z ≤ 2147483647) : CT l D ca base yX3_failures cX3_failures 2 (some .int) 2 1 6 [.ref (ad 0 0), .int (iI (z))] w (fun v w' => (0 ≤ z ∧ z < n) ∧ v = some (.int (iI (S 16 z))) ∧ w = w') (fun E w' => ¬ (0 ≤ z ∧ z < n) ∧ E = nIO ∧ w = w') := by
  obtain ⟨hn, hnc, hnm, e3, e4, e5, h6, h7, h8⟩ := hI.top
  refine CT.mk hlt (by decide +kernel) (by first | exact Nat.le_of_ble_eq_true rfl | simp [lg_sl, cat_rf, cat_i, cat_l, cat_r]) ?_
  intro p e s m args below meth c X htab
  rw [show lv_args 0 [.ref (ad 0 0), .int (iI (z))] = [(0, .ref (ad 0 0)), (1, .int (iI (z)))] from by first | rfl | simp [lv_args, cat_rf, cat_i, cat_l, cat_r]]
  refine j_aload_n X dX3_failures_0 (q := 1) rfl 0 rfl ?_
  refine j_iload_n X dX3_failures_1 (q := 2) rfl 1 rfl ?_
  refine j_callV X (As := [.int (iI (z))]) (st := []) hC.cal rfl (c_X3_known hlt hC hI z hz) sv_X3_54 (by decide) rfl (by first | decide | exact Nat.le_of_ble_eq_true rfl | simp [cat_rf, cat_i, cat_l, cat_r]) dX3_failures_2 (by decide) (fun E w' h => jx_out X htab h (by decide) (by decide)) ?_
  rintro v9 w9 ⟨k1, rfl, rfl⟩
  refine j_st (st := [va_rf (pt (ad 1) (z))]) ?_
  obtain ⟨f_5_0, f_5_1, f_5_2, f_5_3, f_5_4, f_5_5, f_5_6, f_5_7, f_5_8⟩ := hI.ins k1.1 k1.2
  refine j_getp X (v := .int (iI (S 16 z))) fl_X3_136 k1.1 (hC.ins k1.1 k1.2) rfl dX3_failures_5 (q := 8) rfl ?_
  exact j_iret X rfl dX3_failures_8 (⟨k1, rfl, rfl⟩) (by decide) (by decide)

set_option maxRecDepth 100000 in
set_option maxHeartbeats 4000000 in
theorem c_X3_dueOf {l : Launch} (hlt : l.stackTraces = false) {D : va_G} {ca : Nat → ClassId} {base : Nat} {ad : Nat → Int → Nat} {n nc nm : Int} {S : St} {w : Wd} (hC : CW base ca ad n nc nm S w) (hI : IC n nc nm S) (z : Int) (hz : -2147483648 ≤ z ∧ z ≤ 2147483647) : CT l D ca base yX3_dueOf cX3_dueOf 3 (some .int) 2 1 6 [.ref (ad 0 0), .int (iI (z))] w (fun v w' => (0 ≤ z ∧ z < n) ∧ v = some (.int (iI (if S 15 z < 0 then -1 else S 21 (S 15 z) + S 13 z))) ∧ w = w') (fun E w' => ¬ (0 ≤ z ∧ z < n) ∧ E = nIO ∧ w = w') := by
  obtain ⟨hn, hnc, hnm, e3, e4, e5, h6, h7, h8⟩ := hI.top
  refine CT.mk hlt (by decide +kernel) (by first | exact Nat.le_of_ble_eq_true rfl | simp [lg_sl, cat_rf, cat_i, cat_l, cat_r]) ?_
  intro p e s m args below meth c X htab
  rw [show lv_args 0 [.ref (ad 0 0), .int (iI (z))] = [(0, .ref (ad 0 0)), (1, .int (iI (z)))] from by first | rfl | simp [lv_args, cat_rf, cat_i, cat_l, cat_r]]
  refine j_aload_n X dX3_dueOf_0 (q := 1) rfl 0 rfl ?_
  refine j_iload_n X dX3_dueOf_1 (q := 2) rfl 1 rfl ?_
  refine j_callV X (As := [.int (iI (z))]) (st := []) hC.cal rfl (c_X3_known hlt hC hI z hz) sv_X3_54 (by decide) rfl (by first | decide | exact Nat.le_of_ble_eq_true rfl | simp [cat_rf, cat_i, cat_l, cat_r]) dX3_dueOf_2 (by decide) (fun E w' h => jx_out X htab h (by decide) (by decide)) ?_
  rintro v9 w9 ⟨k1, rfl, rfl⟩
  refine j_st (st := [va_rf (pt (ad 1) (z))]) ?_
  obtain ⟨f_6_0, f_6_1, f_6_2, f_6_3, f_6_4, f_6_5, f_6_6, f_6_7, f_6_8⟩ := hI.ins k1.1 k1.2
  refine j_astoreq_n X (i := 2) dX3_dueOf_5 rfl (by decide) (q := 6) rfl (lv' := [(2, va_rf (pt (ad 1) (z))), (0, .ref (ad 0 0)), (1, .int (iI (z)))]) (by first | rfl | simp [cat_rf, cat_i, cat_l, cat_r]) ?_
  refine j_aloadq_n X dX3_dueOf_6 (q := 7) rfl 0 rfl ?_
  refine j_getp X (v := va_rf (pt (ad 2) (S 15 z))) fl_X3_95 k1.1 (hC.ins k1.1 k1.2) rfl dX3_dueOf_7 (q := 10) rfl ?_
  refine j_ifnonnullp X (tgt := 17) dX3_dueOf_10 (by decide) (q := 13) rfl (fun c_10 => ?_) (fun c_10 => ?_)
  · skip
    obtain ⟨f_7_0, f_7_1, f_7_2, f_7_3, f_7_4, f_7_5, f_7_6, f_7_7, f_7_8, f_7_9⟩ := hI.kal c_10 (by omega)
    refine j_aloadq_n X dX3_dueOf_17 (q := 18) rfl 0 rfl ?_
    refine j_aloadq_n X dX3_dueOf_18 (q := 19) rfl 0 rfl ?_
    refine j_getp X (v := va_rf (pt (ad 2) (S 15 z))) fl_X3_95 k1.1 (hC.ins k1.1 k1.2) rfl dX3_dueOf_19 (q := 22) rfl ?_
    refine j_callS X (As := [va_rf (pt (ad 1) (z)), va_rf (pt (ad 2) (S 15 z))]) (st := [])  (c_X3_dueDay hlt hC hI z (S 15 z) k1 ⟨c_10, by omega⟩) ss_X3_182 (by decide) rfl (by first | decide | exact Nat.le_of_ble_eq_true rfl | simp [cat_rf, cat_i, cat_l, cat_r]) dX3_dueOf_22 (by decide) (fun _ _ h => h.elim) ?_
    rintro v9 w9 ⟨rfl, rfl⟩
    refine j_st (st := [.int (iI (S 21 (S 15 z) + S 13 z))]) ?_
    exact j_iret X rfl dX3_dueOf_25 (⟨k1, by rw [if_neg (by omega)], rfl⟩) (by decide) (by decide)
  · skip
    refine j_iconst X (a := -1) dX3_dueOf_13 (q := 14) rfl ?_
    refine j_goto X (tgt := 25) dX3_dueOf_14 (by decide) ?_
    exact j_iret X rfl dX3_dueOf_25 (⟨k1, by rw [if_pos c_10], rfl⟩) (by decide) (by decide)

set_option maxRecDepth 100000 in
set_option maxHeartbeats 4000000 in
theorem c_X3_isSuspect {l : Launch} (hlt : l.stackTraces = false) {D : va_G} {ca : Nat → ClassId} {base : Nat} {ad : Nat → Int → Nat} {n nc nm : Int} {S : St} {w : Wd} (hC : CW base ca ad n nc nm S w) (hI : IC n nc nm S) (z : Int) (hz : -2147483648 ≤ z ∧ z ≤ 2147483647) : CT l D ca base yX3_isSuspect cX3_isSuspect 3 (some .boolean) 2 1 6 [.ref (ad 0 0), .int (iI (z))] w (fun v w' => (0 ≤ z ∧ z < n) ∧ v = some (.int (iI (tf (0 ≤ S 15 z ∧ S 26 (S 15 z) = 1)))) ∧ w = w') (fun E w' => ¬ (0 ≤ z ∧ z < n) ∧ E = nIO ∧ w = w') := by
  obtain ⟨hn, hnc, hnm, e3, e4, e5, h6, h7, h8⟩ := hI.top
  refine CT.mk hlt (by decide +kernel) (by first | exact Nat.le_of_ble_eq_true rfl | simp [lg_sl, cat_rf, cat_i, cat_l, cat_r]) ?_
  intro p e s m args below meth c X htab
  rw [show lv_args 0 [.ref (ad 0 0), .int (iI (z))] = [(0, .ref (ad 0 0)), (1, .int (iI (z)))] from by first | rfl | simp [lv_args, cat_rf, cat_i, cat_l, cat_r]]
  refine j_aload_n X dX3_isSuspect_0 (q := 1) rfl 0 rfl ?_
  refine j_iload_n X dX3_isSuspect_1 (q := 2) rfl 1 rfl ?_
  refine j_callV X (As := [.int (iI (z))]) (st := []) hC.cal rfl (c_X3_known hlt hC hI z hz) sv_X3_54 (by decide) rfl (by first | decide | exact Nat.le_of_ble_eq_true rfl | simp [cat_rf, cat_i, cat_l, cat_r]) dX3_isSuspect_2 (by decide) (fun E w' h => jx_out X htab h (by decide) (by decide)) ?_
  rintro v9 w9 ⟨k1, rfl, rfl⟩
  refine j_st (st := [va_rf (pt (ad 1) (z))]) ?_
  obtain ⟨f_8_0, f_8_1, f_8_2, f_8_3, f_8_4, f_8_5, f_8_6, f_8_7, f_8_8⟩ := hI.ins k1.1 k1.2
  refine j_astoreq_n X (i := 2) dX3_isSuspect_5 rfl (by decide) (q := 6) rfl (lv' := [(2, va_rf (pt (ad 1) (z))), (0, .ref (ad 0 0)), (1, .int (iI (z)))]) (by first | rfl | simp [cat_rf, cat_i, cat_l, cat_r]) ?_
  refine j_aloadq_n X dX3_isSuspect_6 (q := 7) rfl 0 rfl ?_
  refine j_getp X (v := va_rf (pt (ad 2) (S 15 z))) fl_X3_95 k1.1 (hC.ins k1.1 k1.2) rfl dX3_isSuspect_7 (q := 10) rfl ?_
  refine j_ifnullp X (tgt := 27) dX3_isSuspect_10 (by decide) (q := 13) rfl (fun c_10 => ?_) (fun c_10 => ?_)
  · skip
    refine j_iconst X (a := 0) dX3_isSuspect_27 (q := 28) rfl ?_
    exact j_zret X rfl (Or.inl rfl) dX3_isSuspect_28 (⟨k1, by rw [tf_f (by omega)], rfl⟩) (by decide) (by decide)
  · skip
    obtain ⟨f_9_0, f_9_1, f_9_2, f_9_3, f_9_4, f_9_5, f_9_6, f_9_7, f_9_8, f_9_9⟩ := hI.kal c_10 (by omega)
    refine j_aloadq_n X dX3_isSuspect_13 (q := 14) rfl 0 rfl ?_
    refine j_getp X (v := va_rf (pt (ad 2) (S 15 z))) fl_X3_95 k1.1 (hC.ins k1.1 k1.2) rfl dX3_isSuspect_14 (q := 17) rfl ?_
    refine j_getp X (v := .int (iI (S 26 (S 15 z)))) fl_X3_186 c_10 (hC.kal c_10 (by omega)) rfl dX3_isSuspect_17 (q := 20) rfl ?_
    refine j_if_eq X (tgt := 27) dX3_isSuspect_20 (by decide) (q := 23) rfl (by omega) (fun c_20 => ?_) (fun c_20 => ?_)
    · skip
      refine j_iconst X (a := 0) dX3_isSuspect_27 (q := 28) rfl ?_
      exact j_zret X rfl (Or.inl rfl) dX3_isSuspect_28 (⟨k1, by rw [tf_f (by omega)], rfl⟩) (by decide) (by decide)
    · skip
      refine j_iconst X (a := 1) dX3_isSuspect_23 (q := 24) rfl ?_
      refine j_goto X (tgt := 28) dX3_isSuspect_24 (by decide) ?_
      exact j_zret X rfl (Or.inr rfl) dX3_isSuspect_28 (⟨k1, by rw [tf_t (by omega)], rfl⟩) (by decide) (by decide)

set_option maxRecDepth 100000 in
set_option maxHeartbeats 4000000 in
theorem c_X3_distrusted {l : Launch} (hlt : l.stackTraces = false) {D : va_G} {ca : Nat → ClassId} {base : Nat} {ad : Nat → Int → Nat} {n nc nm : Int} {S : St} {w : Wd} (hC : CW base ca ad n nc nm S w) (hI : IC n nc nm S) (z : Int) (hz : -2147483648 ≤ z ∧ z ≤ 2147483647) : CT l D ca base yX3_distrusted cX3_distrusted 2 (some .int) 3 1 6 [.ref (ad 0 0), .int (iI (z))] w (fun v w' => (0 ≤ z ∧ z < n) ∧ v = some (.int (iI (fof (S 14) (inF S) 12 z))) ∧ w = w') (fun E w' => ¬ (0 ≤ z ∧ z < n) ∧ E = nIO ∧ w = w') := by
  obtain ⟨hn, hnc, hnm, e3, e4, e5, h6, h7, h8⟩ := hI.top
  refine CT.mk hlt (by decide +kernel) (by first | exact Nat.le_of_ble_eq_true rfl | simp [lg_sl, cat_rf, cat_i, cat_l, cat_r]) ?_
  intro p e s m args below meth c X htab
  rw [show lv_args 0 [.ref (ad 0 0), .int (iI (z))] = [(0, .ref (ad 0 0)), (1, .int (iI (z)))] from by first | rfl | simp [lv_args, cat_rf, cat_i, cat_l, cat_r]]
  refine j_aload_n X dX3_distrusted_0 (q := 1) rfl 0 rfl ?_
  refine j_aload_n X dX3_distrusted_1 (q := 2) rfl 0 rfl ?_
  refine j_iload_n X dX3_distrusted_2 (q := 3) rfl 1 rfl ?_
  refine j_callV X (As := [.int (iI (z))]) (st := [.ref (ad 0 0)]) hC.cal rfl (c_X3_known hlt hC hI z hz) sv_X3_54 (by decide) rfl (by first | decide | exact Nat.le_of_ble_eq_true rfl | simp [cat_rf, cat_i, cat_l, cat_r]) dX3_distrusted_3 (by decide) (fun E w' h => jx_out X htab h (by decide) (by decide)) ?_
  rintro v9 w9 ⟨k1, rfl, rfl⟩
  refine j_st (st := [va_rf (pt (ad 1) (z)), .ref (ad 0 0)]) ?_
  obtain ⟨f_10_0, f_10_1, f_10_2, f_10_3, f_10_4, f_10_5, f_10_6, f_10_7, f_10_8⟩ := hI.ins k1.1 k1.2
  refine j_callV X (As := [va_rf (pt (ad 1) (z))]) (st := []) hC.cal rfl (c_X3_firstOutOfForce hlt hC hI z (by omega)) sv_X3_86 (by decide) rfl (by first | decide | exact Nat.le_of_ble_eq_true rfl | simp [cat_rf, cat_i, cat_l, cat_r]) dX3_distrusted_6 (by decide) (fun _ _ h => h.elim) ?_
  rintro v9 w9 ⟨rfl, rfl⟩
  refine j_st (st := [va_rf (pt (ad 1) (fof (S 14) (inF S) 12 z))]) ?_
  have hf9 := fof_r (inF := inF S) (fun i a b => (hI.ins a b).2.2.2.2.1) 12 z (by omega) k1.2 hn.1
  refine j_callS X (As := [va_rf (pt (ad 1) (fof (S 14) (inF S) 12 z))]) (st := [])  (c_X3_numberOf hlt hC hI (fof (S 14) (inF S) 12 z) hf9) ss_X3_63 (by decide) rfl (by first | decide | exact Nat.le_of_ble_eq_true rfl | simp [cat_rf, cat_i, cat_l, cat_r]) dX3_distrusted_9 (by decide) (fun _ _ h => h.elim) ?_
  rintro v9 w9 ⟨rfl, rfl⟩
  refine j_st (st := [.int (iI (fof (S 14) (inF S) 12 z))]) ?_
  exact j_iret X rfl dX3_distrusted_12 (⟨k1, rfl, rfl⟩) (by decide) (by decide)

set_option maxRecDepth 100000 in
set_option maxHeartbeats 4000000 in
theorem c_X3_chain {l : Launch} (hlt : l.stackTraces = false) {D : va_G} {ca : Nat → ClassId} {base : Nat} {ad : Nat → Int → Nat} {n nc nm : Int} {S : St} {w : Wd} (hC : CW base ca ad n nc nm S w) (hI : IC n nc nm S) (z : Int) (hz : -2147483648 ≤ z ∧ z ≤ 2147483647) : CT l D ca base yX3_chain cX3_chain 4 (some .int) 2 1 6 [.ref (ad 0 0), .int (iI (z))] w (fun v w' => (0 ≤ z ∧ z < n) ∧ v = some (.int (iI (len (S 14) 12 z))) ∧ w = w') (fun E w' => ¬ (0 ≤ z ∧ z < n) ∧ E = nIO ∧ w = w') := by
  obtain ⟨hn, hnc, hnm, e3, e4, e5, h6, h7, h8⟩ := hI.top
  refine CT.mk hlt (by decide +kernel) (by first | exact Nat.le_of_ble_eq_true rfl | simp [lg_sl, cat_rf, cat_i, cat_l, cat_r]) ?_
  intro p e s m args below meth c X htab
  rw [show lv_args 0 [.ref (ad 0 0), .int (iI (z))] = [(0, .ref (ad 0 0)), (1, .int (iI (z)))] from by first | rfl | simp [lv_args, cat_rf, cat_i, cat_l, cat_r]]
  refine j_iconst X (a := 0) dX3_chain_0 (q := 1) rfl ?_
  refine j_istore_n X (i := 2) dX3_chain_1 rfl (by decide) (q := 2) rfl (lv' := [(2, .int (iI (0))), (0, .ref (ad 0 0)), (1, .int (iI (z)))]) (by first | rfl | simp [cat_rf, cat_i, cat_l, cat_r]) ?_
  refine j_aload_n X dX3_chain_2 (q := 3) rfl 1 rfl ?_
  refine j_iload_n X dX3_chain_3 (q := 4) rfl 2 rfl ?_
  refine j_callV X (As := [.int (iI (z))]) (st := []) hC.cal rfl (c_X3_known hlt hC hI z hz) sv_X3_54 (by decide) rfl (by first | decide | exact Nat.le_of_ble_eq_true rfl | simp [cat_rf, cat_i, cat_l, cat_r]) dX3_chain_4 (by decide) (fun E w' h => jx_out X htab h (by decide) (by decide)) ?_
  rintro v9 w9 ⟨k1, rfl, rfl⟩
  refine j_st (st := [va_rf (pt (ad 1) (z))]) ?_
  obtain ⟨f_11_0, f_11_1, f_11_2, f_11_3, f_11_4, f_11_5, f_11_6, f_11_7, f_11_8⟩ := hI.ins k1.1 k1.2
  refine j_astoreq_n X (i := 3) dX3_chain_7 rfl (by decide) (q := 8) rfl (lv' := [(3, va_rf (pt (ad 1) (z))), (2, .int (iI (0))), (0, .ref (ad 0 0)), (1, .int (iI (z)))]) (by first | rfl | simp [cat_rf, cat_i, cat_l, cat_r]) ?_
  have loop : ∀ (kk : Nat) (a acc : Int), (-1 ≤ a ∧ a < n) → ends (S 14) kk a → (0 ≤ acc ∧ acc + kk ≤ 100) → len (S 14) 12 z = acc + len (S 14) kk a → J p l e (Rm 2 1 6) s m args below meth c (vx_MQ below (Qn D base (fun v w' => (0 ≤ z ∧ z < n) ∧ v = some (.int (iI (len (S 14) 12 z))) ∧ w = w')) (Xn D base (fun E w' => ¬ (0 ≤ z ∧ z < n) ∧ E = nIO ∧ w = w')) args s 1 6 (fun q => base ≤ q)) D base 4 1 6 8 [(2, .int (iI (acc))), (3, va_rf (pt (ad 1) (a)))] [] w := by
    intro kk
    induction kk using Nat.strongRecOn with
    | ind kk ih =>
      intro a acc ha hk hac hv
      refine j_aloadq_n X dX3_chain_8 (q := 9) rfl 1 rfl ?_
      refine j_ifnullp X (tgt := 23) dX3_chain_9 (by decide) (q := 12) rfl (fun c_9 => ?_) (fun c_9 => ?_)
      · skip
        refine j_iload_n X dX3_chain_23 (q := 24) rfl 0 rfl ?_
        exact j_iret X rfl dX3_chain_24 (⟨k1, by rw [len_n c_9] at hv; congr 3; omega, rfl⟩) (by decide) (by decide)
      · skip
        obtain ⟨f_12_0, f_12_1, f_12_2, f_12_3, f_12_4, f_12_5, f_12_6, f_12_7, f_12_8⟩ := hI.ins c_9 ha.2
        obtain ⟨j9, rfl, hk9⟩ := ends_pos hk c_9
        refine j_iinc X dX3_chain_12 0 rfl (by decide) (q := 15) rfl (lv' := [(2, .int (iI (acc + 1))), (3, va_rf (pt (ad 1) (a)))]) (by first | rfl | simp [cat_rf, cat_i, cat_l, cat_r]) ?_
        refine j_aloadq_n X dX3_chain_15 (q := 16) rfl 1 rfl ?_
        refine j_getp X (v := va_rf (pt (ad 1) (S 14 a))) fl_X3_50 c_9 (hC.ins c_9 ha.2) rfl dX3_chain_16 (q := 19) rfl ?_
        refine j_astoreq_n X (i := 3) dX3_chain_19 rfl (by decide) (q := 20) rfl (lv' := [(3, va_rf (pt (ad 1) (S 14 a))), (2, .int (iI (acc + 1)))]) (by first | rfl | simp [cat_rf, cat_i, cat_l, cat_r]) ?_
        refine j_goto X (tgt := 8) dX3_chain_20 (by decide) ?_
        exact j_lv (ih j9 (by omega) (S 14 a) (acc + 1) (by omega) hk9 (by omega) (by rw [len_s c_9] at hv; omega)) [1, 0] rfl
  exact j_lv (loop 12 z 0 (by omega) (hI.ends (by omega) k1.2) (by decide) (by omega)) [1, 0] rfl

set_option maxRecDepth 100000 in
set_option maxHeartbeats 4000000 in
theorem c_X3_isCalledBack {l : Launch} (hlt : l.stackTraces = false) {D : va_G} {ca : Nat → ClassId} {base : Nat} {ad : Nat → Int → Nat} {n nc nm : Int} {S : St} {w : Wd} (hC : CW base ca ad n nc nm S w) (hI : IC n nc nm S) (z : Int) (hz : -2147483648 ≤ z ∧ z ≤ 2147483647) : CT l D ca base yX3_isCalledBack cX3_isCalledBack 3 (some .boolean) 0 1 6 [.ref (ad 0 0), .int (iI (z))] w (fun v w' => (0 ≤ z ∧ z < nm) ∧ v = some (.int (iI (S 32 z))) ∧ w = w') (fun E w' => ¬ (0 ≤ z ∧ z < nm) ∧ E = nIO ∧ w = w') := by
  obtain ⟨hn, hnc, hnm, e3, e4, e5, h6, h7, h8⟩ := hI.top
  refine CT.mk hlt (by decide +kernel) (by first | exact Nat.le_of_ble_eq_true rfl | simp [lg_sl, cat_rf, cat_i, cat_l, cat_r]) ?_
  intro p e s m args below meth c X htab
  rw [show lv_args 0 [.ref (ad 0 0), .int (iI (z))] = [(0, .ref (ad 0 0)), (1, .int (iI (z)))] from by first | rfl | simp [lv_args, cat_rf, cat_i, cat_l, cat_r]]
  refine j_iload_n X dX3_isCalledBack_0 (q := 1) rfl 1 rfl ?_
  refine j_if_lt X (tgt := 13) dX3_isCalledBack_1 (by decide) (q := 4) rfl (by omega) (fun c_1 => ?_) (fun c_1 => ?_)
  · skip
    exact j_throw X htab ts_72_219 dX3_isCalledBack_13 dX3_isCalledBack_16 dX3_isCalledBack_17 dX3_isCalledBack_19 dX3_isCalledBack_22 (by decide) (by decide) (by decide) (by decide) (⟨by (try split at *) <;> omega, rfl, rfl⟩) (by decide) (by decide)
  · skip
    refine j_iload_n X dX3_isCalledBack_4 (q := 5) rfl 1 rfl ?_
    refine j_aload_n X dX3_isCalledBack_5 (q := 6) rfl 0 rfl ?_
    refine j_get X (v := .ref (ad 0 2)) fl_X3_17 hC.cal rfl dX3_isCalledBack_6 (q := 9) rfl ?_
    refine j_alen X (t := 3) (N := 200) rfl hC.made rfl dX3_isCalledBack_9 (q := 10) rfl ?_
    refine j_icmp_lt X (tgt := 23) dX3_isCalledBack_10 (by decide) (q := 13) rfl (by omega) (by omega) (fun c_10 => ?_) (fun c_10 => ?_)
    · skip
      refine j_aload_n X dX3_isCalledBack_23 (q := 24) rfl 0 rfl ?_
      refine j_get X (v := .ref (ad 0 2)) fl_X3_17 hC.cal rfl dX3_isCalledBack_24 (q := 27) rfl ?_
      refine j_iload_n X dX3_isCalledBack_27 (q := 28) rfl 1 rfl ?_
      refine j_aald X (t := 3) (i := z) rfl hC.made (by omega) (by decide) dX3_isCalledBack_28 (q := 29) rfl ?_
      rw [rw_pt (by omega)]
      refine j_astoreq_n X (i := 2) dX3_isCalledBack_29 rfl (by decide) (q := 30) rfl (lv' := [(2, va_rf (pt (ad 3) (if z < S 4 0 then z else -1))), (0, .ref (ad 0 0)), (1, .int (iI (z)))]) (by first | rfl | simp [cat_rf, cat_i, cat_l, cat_r]) ?_
      refine j_aloadq_n X dX3_isCalledBack_30 (q := 31) rfl 0 rfl ?_
      refine j_ifnonnullp X (tgt := 44) dX3_isCalledBack_31 (by decide) (q := 34) rfl (fun c_31 => ?_) (fun c_31 => ?_)
      · skip
        have hz2 : 0 ≤ z ∧ z < nm := by split at c_31 <;> omega
        rw [if_pos (by omega)]
        obtain ⟨f_13_0, f_13_1, f_13_2⟩ := hI.mea hz2.1 hz2.2
        refine j_aloadq_n X dX3_isCalledBack_44 (q := 45) rfl 0 rfl ?_
        refine j_getp X (v := .int (iI (S 32 z))) fl_X3_221 hz2.1 (hC.mea hz2.1 hz2.2) rfl dX3_isCalledBack_45 (q := 48) rfl ?_
        exact j_zret X rfl (b01 (by omega)) dX3_isCalledBack_48 (⟨hz2, rfl, rfl⟩) (by decide) (by decide)
      · skip
        exact j_throw X htab ts_72_219 dX3_isCalledBack_34 dX3_isCalledBack_37 dX3_isCalledBack_38 dX3_isCalledBack_40 dX3_isCalledBack_43 (by decide) (by decide) (by decide) (by decide) (⟨by (try split at *) <;> omega, rfl, rfl⟩) (by decide) (by decide)
    · skip
      exact j_throw X htab ts_72_219 dX3_isCalledBack_13 dX3_isCalledBack_16 dX3_isCalledBack_17 dX3_isCalledBack_19 dX3_isCalledBack_22 (by decide) (by decide) (by decide) (by decide) (⟨by (try split at *) <;> omega, rfl, rfl⟩) (by decide) (by decide)
