theorem tf_1 {c : Prop} [Decidable c] (h : tf c ≠ 0) : c := Classical.byContradiction fun z => h (tf_f z)
theorem tf_0 {c : Prop} [Decidable c] (h : tf c = 0) : ¬ c := fun z => by rw [tf_t z] at h; cases h
theorem tf_i {c : Prop} [Decidable c] : tf (tf c = 0) = 1 - tf c := by
  by_cases h : c
  · rw [tf_t h]; rfl
  · rw [tf_f h]; rfl
def inM (T : St) (i : Int) : Int := tf (0 < T 8 i ∧ T 1 0 ≤ T 11 i ∧ T 13 i = 0)
theorem inM_b (T : St) (i : Int) : 0 ≤ inM T i ∧ inM T i ≤ 1 := tf_b _
set_option maxRecDepth 100000 in
set_option maxHeartbeats 4000000 in
theorem c_X4_thrown {l : Launch} (hlt : l.stackTraces = false) {D : va_G} {ca : Nat → ClassId} {base : Nat} {am : Nat → Nat} {th : Int} {n nm : Int} {T : St} {w : Wd} (hM : MW base ca am th T w) (hI : MI n nm T) : CT l D ca base yX4_thrown cX4_thrown 1 (some .int) 0 0 0 [.ref (am 0)] w (fun v w' => v = some (.int (iI (th))) ∧ w = w') (fun _ _ => False) := by
  obtain ⟨hn, hnm, e2, e18, h1t, h3t⟩ := hI.top
  refine CT.mk hlt (by decide +kernel) (by first | exact Nat.le_of_ble_eq_true rfl | simp [lg_sl, cat_rf, cat_i, cat_l, cat_r]) ?_
  intro p e s m args below meth c X htab
  rw [show lv_args 0 [.ref (am 0)] = [(0, .ref (am 0))] from by first | rfl | simp [lv_args, cat_rf, cat_i, cat_l, cat_r]]
  refine j_aload_n X dX4_thrown_0 (q := 1) rfl 0 rfl ?_
  refine j_get X (v := .int (iI (th))) fl_X4_62 hM.obj rfl dX4_thrown_1 (q := 4) rfl ?_
  exact j_iret X rfl dX4_thrown_4 (⟨rfl, rfl⟩) (by decide) (by decide)

set_option maxRecDepth 100000 in
set_option maxHeartbeats 4000000 in
theorem c_X4_isInstrument {l : Launch} (hlt : l.stackTraces = false) {D : va_G} {ca : Nat → ClassId} {base : Nat} {am : Nat → Nat} {th : Int} {n nm : Int} {T : St} {w : Wd} (hM : MW base ca am th T w) (hI : MI n nm T) (z : Int) (hz : -2147483648 ≤ z ∧ z ≤ 2147483647) : CT l D ca base yX4_isInstrument cX4_isInstrument 2 (some .boolean) 0 0 0 [.ref (am 0), .int (iI (z))] w (fun v w' => v = some (.int (iI (tf (0 ≤ z ∧ z < n)))) ∧ w = w') (fun _ _ => False) := by
  obtain ⟨hn, hnm, e2, e18, h1t, h3t⟩ := hI.top
  refine CT.mk hlt (by decide +kernel) (by first | exact Nat.le_of_ble_eq_true rfl | simp [lg_sl, cat_rf, cat_i, cat_l, cat_r]) ?_
  intro p e s m args below meth c X htab
  rw [show lv_args 0 [.ref (am 0), .int (iI (z))] = [(0, .ref (am 0)), (1, .int (iI (z)))] from by first | rfl | simp [lv_args, cat_rf, cat_i, cat_l, cat_r]]
  refine j_iload_n X dX4_isInstrument_0 (q := 1) rfl 1 rfl ?_
  refine j_if_lt X (tgt := 16) dX4_isInstrument_1 (by decide) (q := 4) rfl (by omega) (fun c_1 => ?_) (fun c_1 => ?_)
  · skip
    refine j_iconst X (a := 0) dX4_isInstrument_16 (q := 17) rfl ?_
    exact j_zret X rfl (Or.inl rfl) dX4_isInstrument_17 (⟨by rw [tf_f (by omega)], rfl⟩) (by decide) (by decide)
  · skip
    refine j_iload_n X dX4_isInstrument_4 (q := 5) rfl 1 rfl ?_
    refine j_aload_n X dX4_isInstrument_5 (q := 6) rfl 0 rfl ?_
    refine j_get X (v := .int (iI (T 2 0))) fl_X4_66 hM.obj rfl dX4_isInstrument_6 (q := 9) rfl ?_
    refine j_icmp_ge X (tgt := 16) dX4_isInstrument_9 (by decide) (q := 12) rfl (by omega) (by omega) (fun c_9 => ?_) (fun c_9 => ?_)
    · skip
      refine j_iconst X (a := 0) dX4_isInstrument_16 (q := 17) rfl ?_
      exact j_zret X rfl (Or.inl rfl) dX4_isInstrument_17 (⟨by rw [tf_f (by omega)], rfl⟩) (by decide) (by decide)
    · skip
      refine j_iconst X (a := 1) dX4_isInstrument_12 (q := 13) rfl ?_
      refine j_goto X (tgt := 17) dX4_isInstrument_13 (by decide) ?_
      exact j_zret X rfl (Or.inr rfl) dX4_isInstrument_17 (⟨by rw [tf_t (by omega)], rfl⟩) (by decide) (by decide)

set_option maxRecDepth 100000 in
set_option maxHeartbeats 4000000 in
theorem c_X4_isError {l : Launch} (hlt : l.stackTraces = false) {D : va_G} {ca : Nat → ClassId} {base : Nat} {w : Wd} (z : Int) (hz : -2147483648 ≤ z ∧ z ≤ 2147483647) : CT l D ca base yX4_isError cX4_isError 1 (some .boolean) 0 0 0 [.int (iI (z))] w (fun v w' => v = some (.int (iI (tf (-99999 ≤ z ∧ z ≤ 99999)))) ∧ w = w') (fun _ _ => False) := by
  refine CT.mk hlt (by decide +kernel) (by first | exact Nat.le_of_ble_eq_true rfl | simp [lg_sl, cat_rf, cat_i, cat_l, cat_r]) ?_
  intro p e s m args below meth c X htab
  rw [show lv_args 0 [.int (iI (z))] = [(0, .int (iI (z)))] from by first | rfl | simp [lv_args, cat_rf, cat_i, cat_l, cat_r]]
  refine j_iload_n X dX4_isError_0 (q := 1) rfl 0 rfl ?_
  refine j_ldc X (a := -99999) ko_X4_100 rfl dX4_isError_1 (q := 3) rfl ?_
  refine j_icmp_lt X (tgt := 16) dX4_isError_3 (by decide) (q := 6) rfl (by omega) (by omega) (fun c_3 => ?_) (fun c_3 => ?_)
  · skip
    refine j_iconst X (a := 0) dX4_isError_16 (q := 17) rfl ?_
    exact j_zret X rfl (Or.inl rfl) dX4_isError_17 (⟨by rw [tf_f (by omega)], rfl⟩) (by decide) (by decide)
  · skip
    refine j_iload_n X dX4_isError_6 (q := 7) rfl 0 rfl ?_
    refine j_ldc X (a := 99999) ko_X4_101 rfl dX4_isError_7 (q := 9) rfl ?_
    refine j_icmp_gt X (tgt := 16) dX4_isError_9 (by decide) (q := 12) rfl (by omega) (by omega) (fun c_9 => ?_) (fun c_9 => ?_)
    · skip
      refine j_iconst X (a := 0) dX4_isError_16 (q := 17) rfl ?_
      exact j_zret X rfl (Or.inl rfl) dX4_isError_17 (⟨by rw [tf_f (by omega)], rfl⟩) (by decide) (by decide)
    · skip
      refine j_iconst X (a := 1) dX4_isError_12 (q := 13) rfl ?_
      refine j_goto X (tgt := 17) dX4_isError_13 (by decide) ?_
      exact j_zret X rfl (Or.inr rfl) dX4_isError_17 (⟨by rw [tf_t (by omega)], rfl⟩) (by decide) (by decide)

set_option maxRecDepth 100000 in
set_option maxHeartbeats 4000000 in
theorem c_X4_isEach {l : Launch} (hlt : l.stackTraces = false) {D : va_G} {ca : Nat → ClassId} {base : Nat} {w : Wd} (z : Int) (hz : -2147483648 ≤ z ∧ z ≤ 2147483647) : CT l D ca base yX4_isEach cX4_isEach 1 (some .boolean) 0 0 0 [.int (iI (z))] w (fun v w' => v = some (.int (iI (tf (1 ≤ z ∧ z ≤ 12)))) ∧ w = w') (fun _ _ => False) := by
  refine CT.mk hlt (by decide +kernel) (by first | exact Nat.le_of_ble_eq_true rfl | simp [lg_sl, cat_rf, cat_i, cat_l, cat_r]) ?_
  intro p e s m args below meth c X htab
  rw [show lv_args 0 [.int (iI (z))] = [(0, .int (iI (z)))] from by first | rfl | simp [lv_args, cat_rf, cat_i, cat_l, cat_r]]
  refine j_iload_n X dX4_isEach_0 (q := 1) rfl 0 rfl ?_
  refine j_iconst X (a := 1) dX4_isEach_1 (q := 2) rfl ?_
  refine j_icmp_lt X (tgt := 15) dX4_isEach_2 (by decide) (q := 5) rfl (by omega) (by omega) (fun c_2 => ?_) (fun c_2 => ?_)
  · skip
    refine j_iconst X (a := 0) dX4_isEach_15 (q := 16) rfl ?_
    exact j_zret X rfl (Or.inl rfl) dX4_isEach_16 (⟨by rw [tf_f (by omega)], rfl⟩) (by decide) (by decide)
  · skip
    refine j_iload_n X dX4_isEach_5 (q := 6) rfl 0 rfl ?_
    refine j_bipush X (a := 12) (by decide +kernel) dX4_isEach_6 (q := 8) rfl ?_
    refine j_icmp_gt X (tgt := 15) dX4_isEach_8 (by decide) (q := 11) rfl (by omega) (by omega) (fun c_8 => ?_) (fun c_8 => ?_)
    · skip
      refine j_iconst X (a := 0) dX4_isEach_15 (q := 16) rfl ?_
      exact j_zret X rfl (Or.inl rfl) dX4_isEach_16 (⟨by rw [tf_f (by omega)], rfl⟩) (by decide) (by decide)
    · skip
      refine j_iconst X (a := 1) dX4_isEach_11 (q := 12) rfl ?_
      refine j_goto X (tgt := 16) dX4_isEach_12 (by decide) ?_
      exact j_zret X rfl (Or.inr rfl) dX4_isEach_16 (⟨by rw [tf_t (by omega)], rfl⟩) (by decide) (by decide)

set_option maxRecDepth 100000 in
set_option maxHeartbeats 4000000 in
theorem c_X4_unsigned {l : Launch} (hlt : l.stackTraces = false) {D : va_G} {ca : Nat → ClassId} {base : Nat} {w : Wd} (z : Int) (hz : -2147483647 ≤ z ∧ z ≤ 2147483647) : CT l D ca base yX4_unsigned cX4_unsigned 1 (some .int) 0 0 0 [.int (iI (z))] w (fun v w' => v = some (.int (iI (iabs z))) ∧ w = w') (fun _ _ => False) := by
  refine CT.mk hlt (by decide +kernel) (by first | exact Nat.le_of_ble_eq_true rfl | simp [lg_sl, cat_rf, cat_i, cat_l, cat_r]) ?_
  intro p e s m args below meth c X htab
  rw [show lv_args 0 [.int (iI (z))] = [(0, .int (iI (z)))] from by first | rfl | simp [lv_args, cat_rf, cat_i, cat_l, cat_r]]
  refine j_iload_n X dX4_unsigned_0 (q := 1) rfl 0 rfl ?_
  refine j_if_ge X (tgt := 9) dX4_unsigned_1 (by decide) (q := 4) rfl (by omega) (fun c_1 => ?_) (fun c_1 => ?_)
  · skip
    refine j_iload_n X dX4_unsigned_9 (q := 10) rfl 0 rfl ?_
    exact j_iret X rfl dX4_unsigned_10 (⟨by rw [iabs_p (by omega)], rfl⟩) (by decide) (by decide)
  · skip
    refine j_iload_n X dX4_unsigned_4 (q := 5) rfl 0 rfl ?_
    refine j_ineg X dX4_unsigned_5 (q := 6) rfl ?_
    refine j_goto X (tgt := 10) dX4_unsigned_6 (by decide) ?_
    exact j_iret X rfl dX4_unsigned_10 (⟨by rw [iabs_n (by omega)], rfl⟩) (by decide) (by decide)

set_option maxRecDepth 100000 in
set_option maxHeartbeats 4000000 in
theorem c_X4_holds {l : Launch} (hlt : l.stackTraces = false) {D : va_G} {ca : Nat → ClassId} {base : Nat} {am : Nat → Nat} {th : Int} {n nm : Int} {T : St} {w : Wd} (hM : MW base ca am th T w) (hI : MI n nm T) (z : Int) (hz : -2147483648 ≤ z ∧ z ≤ 2147483647) : CT l D ca base yX4_holds cX4_holds 2 (some .boolean) 0 0 0 [.ref (am 0), .int (iI (z))] w (fun v w' => v = some (.int (iI (tf (z = 0)))) ∧ MW base ca am z T w' ∧ Fr 1 w w') (fun _ _ => False) := by
  obtain ⟨hn, hnm, e2, e18, h1t, h3t⟩ := hI.top
  refine CT.mk hlt (by decide +kernel) (by first | exact Nat.le_of_ble_eq_true rfl | simp [lg_sl, cat_rf, cat_i, cat_l, cat_r]) ?_
  intro p e s m args below meth c X htab
  rw [show lv_args 0 [.ref (am 0), .int (iI (z))] = [(0, .ref (am 0)), (1, .int (iI (z)))] from by first | rfl | simp [lv_args, cat_rf, cat_i, cat_l, cat_r]]
  refine j_aload_n X dX4_holds_0 (q := 1) rfl 0 rfl ?_
  refine j_iload_n X dX4_holds_1 (q := 2) rfl 1 rfl ?_
  refine jm_put0 X fp_X4_62 hM dX4_holds_2 (q := 5) rfl (fun w_1 hMw_1 hFw_1 => ?_)
  refine j_iload_n X dX4_holds_5 (q := 6) rfl 1 rfl ?_
  refine j_if_ne X (tgt := 13) dX4_holds_6 (by decide) (q := 9) rfl (by omega) (fun c_6 => ?_) (fun c_6 => ?_)
  · skip
    refine j_iconst X (a := 0) dX4_holds_13 (q := 14) rfl ?_
    exact j_zret X rfl (Or.inl rfl) dX4_holds_14 (⟨by rw [tf_f c_6], hMw_1, hFw_1⟩) (by decide) (by decide)
  · skip
    refine j_iconst X (a := 1) dX4_holds_9 (q := 10) rfl ?_
    refine j_goto X (tgt := 14) dX4_holds_10 (by decide) ?_
    exact j_zret X rfl (Or.inr rfl) dX4_holds_14 (⟨by rw [tf_t c_6], hMw_1, hFw_1⟩) (by decide) (by decide)

set_option maxRecDepth 100000 in
set_option maxHeartbeats 4000000 in
theorem c_X4_isAsked {l : Launch} (hlt : l.stackTraces = false) {D : va_G} {ca : Nat → ClassId} {base : Nat} {am : Nat → Nat} {th : Int} {n nm : Int} {T : St} {w : Wd} (hM : MW base ca am th T w) (hI : MI n nm T) (z : Int) (hz : -2147483648 ≤ z ∧ z ≤ 2147483647) : CT l D ca base yX4_isAsked cX4_isAsked 2 (some .boolean) 1 0 0 [.ref (am 0), .int (iI (z))] w (fun v w' => v = some (.int (iI (tf (0 ≤ z ∧ z < n)))) ∧ MW base ca am (if 0 ≤ z ∧ z < n then 0 else 1) T w' ∧ Fr 1 w w') (fun _ _ => False) := by
  obtain ⟨hn, hnm, e2, e18, h1t, h3t⟩ := hI.top
  refine CT.mk hlt (by decide +kernel) (by first | exact Nat.le_of_ble_eq_true rfl | simp [lg_sl, cat_rf, cat_i, cat_l, cat_r]) ?_
  intro p e s m args below meth c X htab
  rw [show lv_args 0 [.ref (am 0), .int (iI (z))] = [(0, .ref (am 0)), (1, .int (iI (z)))] from by first | rfl | simp [lv_args, cat_rf, cat_i, cat_l, cat_r]]
  refine j_aload_n X dX4_isAsked_0 (q := 1) rfl 0 rfl ?_
  refine j_aload_n X dX4_isAsked_1 (q := 2) rfl 0 rfl ?_
  refine j_iload_n X dX4_isAsked_2 (q := 3) rfl 1 rfl ?_
  refine j_callV X (As := [.int (iI (z))]) (st := [.ref (am 0)]) hM.obj rfl (c_X4_isInstrument hlt hM hI z hz) sv_X4_69 (by decide) rfl (by first | decide | exact Nat.le_of_ble_eq_true rfl | simp [cat_rf, cat_i, cat_l, cat_r]) dX4_isAsked_3 (by decide) (fun _ _ h => h.elim) ?_
  rintro v9 w9 ⟨rfl, rfl⟩
  refine j_st (st := [.int (iI (tf (0 ≤ z ∧ z < n))), .ref (am 0)]) ?_
  have hb := tf_b (0 ≤ z ∧ z < n)
  refine j_if_eq X (tgt := 13) dX4_isAsked_6 (by decide) (q := 9) rfl (by omega) (fun c_6 => ?_) (fun c_6 => ?_)
  · skip
    refine j_iconst X (a := 1) dX4_isAsked_13 (q := 14) rfl ?_
    refine j_callV X (As := [.int (iI (1))]) (st := []) hM.obj rfl (c_X4_holds hlt hM hI 1 (by decide)) sv_X4_73 (by decide) rfl (by first | decide | exact Nat.le_of_ble_eq_true rfl | simp [cat_rf, cat_i, cat_l, cat_r]) dX4_isAsked_14 (by decide) (fun _ _ h => h.elim) ?_
    rintro v9 w9 ⟨rfl, hM9, hF9⟩
    refine j_st (st := [.int (iI (tf ((1 : Int) = 0)))]) ?_
    exact j_zret X rfl (by first | exact b01 (tf_b _) | exact b01 (by omega) | omega) dX4_isAsked_17 (⟨by rw [tf_f (tf_0 c_6)]; rfl, by rw [if_neg (tf_0 c_6)]; exact hM9, hF9⟩) (by decide) (by decide)
  · skip
    refine j_iconst X (a := 0) dX4_isAsked_9 (q := 10) rfl ?_
    refine j_goto X (tgt := 14) dX4_isAsked_10 (by decide) ?_
    refine j_callV X (As := [.int (iI (0))]) (st := []) hM.obj rfl (c_X4_holds hlt hM hI 0 (by decide)) sv_X4_73 (by decide) rfl (by first | decide | exact Nat.le_of_ble_eq_true rfl | simp [cat_rf, cat_i, cat_l, cat_r]) dX4_isAsked_14 (by decide) (fun _ _ h => h.elim) ?_
    rintro v9 w9 ⟨rfl, hM9, hF9⟩
    refine j_st (st := [.int (iI (tf ((0 : Int) = 0)))]) ?_
    exact j_zret X rfl (by first | exact b01 (tf_b _) | exact b01 (by omega) | omega) dX4_isAsked_17 (⟨by rw [tf_t (tf_1 c_6)]; rfl, by rw [if_pos (tf_1 c_6)]; exact hM9, hF9⟩) (by decide) (by decide)

set_option maxRecDepth 100000 in
set_option maxHeartbeats 4000000 in
theorem c_X4_today {l : Launch} (hlt : l.stackTraces = false) {D : va_G} {ca : Nat → ClassId} {base : Nat} {am : Nat → Nat} {th : Int} {n nm : Int} {T : St} {w : Wd} (hM : MW base ca am th T w) (hI : MI n nm T) : CT l D ca base yX4_today cX4_today 1 (some .int) 0 0 0 [.ref (am 0)] w (fun v w' => v = some (.int (iI (T 1 0))) ∧ MW base ca am 0 T w' ∧ Fr 1 w w') (fun _ _ => False) := by
  obtain ⟨hn, hnm, e2, e18, h1t, h3t⟩ := hI.top
  refine CT.mk hlt (by decide +kernel) (by first | exact Nat.le_of_ble_eq_true rfl | simp [lg_sl, cat_rf, cat_i, cat_l, cat_r]) ?_
  intro p e s m args below meth c X htab
  rw [show lv_args 0 [.ref (am 0)] = [(0, .ref (am 0))] from by first | rfl | simp [lv_args, cat_rf, cat_i, cat_l, cat_r]]
  refine j_aload_n X dX4_today_0 (q := 1) rfl 0 rfl ?_
  refine j_iconst X (a := 0) dX4_today_1 (q := 2) rfl ?_
  refine jm_put0 X fp_X4_62 hM dX4_today_2 (q := 5) rfl (fun w_2 hMw_2 hFw_2 => ?_)
  refine j_aload_n X dX4_today_5 (q := 6) rfl 0 rfl ?_
  refine j_get X (v := .int (iI (T 1 0))) fl_X4_80 hMw_2.obj rfl dX4_today_6 (q := 9) rfl ?_
  exact j_iret X rfl dX4_today_9 (⟨rfl, hMw_2, hFw_2⟩) (by decide) (by decide)

set_option maxRecDepth 100000 in
set_option maxHeartbeats 4000000 in
theorem c_X4_instruments {l : Launch} (hlt : l.stackTraces = false) {D : va_G} {ca : Nat → ClassId} {base : Nat} {am : Nat → Nat} {th : Int} {n nm : Int} {T : St} {w : Wd} (hM : MW base ca am th T w) (hI : MI n nm T) : CT l D ca base yX4_instruments cX4_instruments 1 (some .int) 0 0 0 [.ref (am 0)] w (fun v w' => v = some (.int (iI (T 2 0))) ∧ MW base ca am 0 T w' ∧ Fr 1 w w') (fun _ _ => False) := by
  obtain ⟨hn, hnm, e2, e18, h1t, h3t⟩ := hI.top
  refine CT.mk hlt (by decide +kernel) (by first | exact Nat.le_of_ble_eq_true rfl | simp [lg_sl, cat_rf, cat_i, cat_l, cat_r]) ?_
  intro p e s m args below meth c X htab
  rw [show lv_args 0 [.ref (am 0)] = [(0, .ref (am 0))] from by first | rfl | simp [lv_args, cat_rf, cat_i, cat_l, cat_r]]
  refine j_aload_n X dX4_instruments_0 (q := 1) rfl 0 rfl ?_
  refine j_iconst X (a := 0) dX4_instruments_1 (q := 2) rfl ?_
  refine jm_put0 X fp_X4_62 hM dX4_instruments_2 (q := 5) rfl (fun w_3 hMw_3 hFw_3 => ?_)
  refine j_aload_n X dX4_instruments_5 (q := 6) rfl 0 rfl ?_
  refine j_get X (v := .int (iI (T 2 0))) fl_X4_66 hMw_3.obj rfl dX4_instruments_6 (q := 9) rfl ?_
  exact j_iret X rfl dX4_instruments_9 (⟨rfl, hMw_3, hFw_3⟩) (by decide) (by decide)

set_option maxRecDepth 100000 in
set_option maxHeartbeats 4000000 in
theorem c_X4_measurements {l : Launch} (hlt : l.stackTraces = false) {D : va_G} {ca : Nat → ClassId} {base : Nat} {am : Nat → Nat} {th : Int} {n nm : Int} {T : St} {w : Wd} (hM : MW base ca am th T w) (hI : MI n nm T) : CT l D ca base yX4_measurements cX4_measurements 1 (some .int) 0 0 0 [.ref (am 0)] w (fun v w' => v = some (.int (iI (T 18 0))) ∧ MW base ca am 0 T w' ∧ Fr 1 w w') (fun _ _ => False) := by
  obtain ⟨hn, hnm, e2, e18, h1t, h3t⟩ := hI.top
  refine CT.mk hlt (by decide +kernel) (by first | exact Nat.le_of_ble_eq_true rfl | simp [lg_sl, cat_rf, cat_i, cat_l, cat_r]) ?_
  intro p e s m args below meth c X htab
  rw [show lv_args 0 [.ref (am 0)] = [(0, .ref (am 0))] from by first | rfl | simp [lv_args, cat_rf, cat_i, cat_l, cat_r]]
  refine j_aload_n X dX4_measurements_0 (q := 1) rfl 0 rfl ?_
  refine j_iconst X (a := 0) dX4_measurements_1 (q := 2) rfl ?_
  refine jm_put0 X fp_X4_62 hM dX4_measurements_2 (q := 5) rfl (fun w_4 hMw_4 hFw_4 => ?_)
  refine j_aload_n X dX4_measurements_5 (q := 6) rfl 0 rfl ?_
  refine j_get X (v := .int (iI (T 18 0))) fl_X4_89 hMw_4.obj rfl dX4_measurements_6 (q := 9) rfl ?_
  exact j_iret X rfl dX4_measurements_9 (⟨rfl, hMw_4, hFw_4⟩) (by decide) (by decide)

set_option maxRecDepth 100000 in
set_option maxHeartbeats 4000000 in
theorem c_X4_isCalibrated {l : Launch} (hlt : l.stackTraces = false) {D : va_G} {ca : Nat → ClassId} {base : Nat} {am : Nat → Nat} {th : Int} {n nm : Int} {T : St} {w : Wd} (hM : MW base ca am th T w) (hI : MI n nm T) (z : Int) (hz : 0 ≤ z ∧ z < n) : CT l D ca base yX4_isCalibrated cX4_isCalibrated 2 (some .boolean) 0 0 0 [.ref (am 0), .int (iI (z))] w (fun v w' => v = some (.int (iI (tf (0 < T 8 z)))) ∧ w = w') (fun _ _ => False) := by
  obtain ⟨hn, hnm, e2, e18, h1t, h3t⟩ := hI.top
  refine CT.mk hlt (by decide +kernel) (by first | exact Nat.le_of_ble_eq_true rfl | simp [lg_sl, cat_rf, cat_i, cat_l, cat_r]) ?_
  intro p e s m args below meth c X htab
  rw [show lv_args 0 [.ref (am 0), .int (iI (z))] = [(0, .ref (am 0)), (1, .int (iI (z)))] from by first | rfl | simp [lv_args, cat_rf, cat_i, cat_l, cat_r]]
  obtain ⟨t_5_0, t_5_1, t_5_2, t_5_3, t_5_4, t_5_5, t_5_6, t_5_7, t_5_8, t_5_9, t_5_10, t_5_11⟩ := hI.ins (i := z) hz.1 hz.2
  refine j_aload_n X dX4_isCalibrated_0 (q := 1) rfl 0 rfl ?_
  refine j_get X (v := .ref (am 8)) fl_X4_22 hM.obj rfl dX4_isCalibrated_1 (q := 4) rfl ?_
  refine j_iload_n X dX4_isCalibrated_4 (q := 5) rfl 1 rfl ?_
  refine jm_iald X hM 8 (by decide) rfl (by omega) (by show _ < (12 : Int); omega) dX4_isCalibrated_5 (q := 6) rfl ?_
  refine j_if_le X (tgt := 13) dX4_isCalibrated_6 (by decide) (q := 9) rfl (by omega) (fun c_6 => ?_) (fun c_6 => ?_)
  · skip
    refine j_iconst X (a := 0) dX4_isCalibrated_13 (q := 14) rfl ?_
    exact j_zret X rfl (Or.inl rfl) dX4_isCalibrated_14 (⟨by rw [tf_f (by omega)], rfl⟩) (by decide) (by decide)
  · skip
    refine j_iconst X (a := 1) dX4_isCalibrated_9 (q := 10) rfl ?_
    refine j_goto X (tgt := 14) dX4_isCalibrated_10 (by decide) ?_
    exact j_zret X rfl (Or.inr rfl) dX4_isCalibrated_14 (⟨by rw [tf_t (by omega)], rfl⟩) (by decide) (by decide)

set_option maxRecDepth 100000 in
set_option maxHeartbeats 4000000 in
theorem c_X4_isInForce {l : Launch} (hlt : l.stackTraces = false) {D : va_G} {ca : Nat → ClassId} {base : Nat} {am : Nat → Nat} {th : Int} {n nm : Int} {T : St} {w : Wd} (hM : MW base ca am th T w) (hI : MI n nm T) (z : Int) (hz : 0 ≤ z ∧ z < n) : CT l D ca base yX4_isInForce cX4_isInForce 2 (some .boolean) 1 0 0 [.ref (am 0), .int (iI (z))] w (fun v w' => v = some (.int (iI (inM T z))) ∧ w = w') (fun _ _ => False) := by
  obtain ⟨hn, hnm, e2, e18, h1t, h3t⟩ := hI.top
  refine CT.mk hlt (by decide +kernel) (by first | exact Nat.le_of_ble_eq_true rfl | simp [lg_sl, cat_rf, cat_i, cat_l, cat_r]) ?_
  intro p e s m args below meth c X htab
  rw [show lv_args 0 [.ref (am 0), .int (iI (z))] = [(0, .ref (am 0)), (1, .int (iI (z)))] from by first | rfl | simp [lv_args, cat_rf, cat_i, cat_l, cat_r]]
  obtain ⟨t_6_0, t_6_1, t_6_2, t_6_3, t_6_4, t_6_5, t_6_6, t_6_7, t_6_8, t_6_9, t_6_10, t_6_11⟩ := hI.ins (i := z) hz.1 hz.2
  refine j_aload_n X dX4_isInForce_0 (q := 1) rfl 0 rfl ?_
  refine j_iload_n X dX4_isInForce_1 (q := 2) rfl 1 rfl ?_
  refine j_callV X (As := [.int (iI (z))]) (st := []) hM.obj rfl (c_X4_isCalibrated hlt hM hI z hz) sv_X4_83 (by decide) rfl (by first | decide | exact Nat.le_of_ble_eq_true rfl | simp [cat_rf, cat_i, cat_l, cat_r]) dX4_isInForce_2 (by decide) (fun _ _ h => h.elim) ?_
  rintro v9 w9 ⟨rfl, rfl⟩
  refine j_st (st := [.int (iI (tf (0 < T 8 z)))]) ?_
  have hb := tf_b (0 < T 8 z)
  refine j_if_eq X (tgt := 34) dX4_isInForce_5 (by decide) (q := 8) rfl (by omega) (fun c_5 => ?_) (fun c_5 => ?_)
  · skip
    have k5 := tf_0 c_5
    refine j_iconst X (a := 0) dX4_isInForce_34 (q := 35) rfl ?_
    exact j_zret X rfl (Or.inl rfl) dX4_isInForce_35 (⟨by rw [inM, tf_f (by omega)], rfl⟩) (by decide) (by decide)
  · skip
    have k5 := tf_1 c_5
    refine j_aload_n X dX4_isInForce_8 (q := 9) rfl 0 rfl ?_
    refine j_get X (v := .int (iI (T 1 0))) fl_X4_80 hM.obj rfl dX4_isInForce_9 (q := 12) rfl ?_
    refine j_aload_n X dX4_isInForce_12 (q := 13) rfl 0 rfl ?_
    refine j_get X (v := .ref (am 11)) fl_X4_31 hM.obj rfl dX4_isInForce_13 (q := 16) rfl ?_
    refine j_iload_n X dX4_isInForce_16 (q := 17) rfl 1 rfl ?_
    refine jm_iald X hM 11 (by decide) rfl (by omega) (by show _ < (12 : Int); omega) dX4_isInForce_17 (q := 18) rfl ?_
    refine j_icmp_gt X (tgt := 34) dX4_isInForce_18 (by decide) (q := 21) rfl (by omega) (by omega) (fun c_18 => ?_) (fun c_18 => ?_)
    · skip
      refine j_iconst X (a := 0) dX4_isInForce_34 (q := 35) rfl ?_
      exact j_zret X rfl (Or.inl rfl) dX4_isInForce_35 (⟨by rw [inM, tf_f (by omega)], rfl⟩) (by decide) (by decide)
    · skip
      refine j_aload_n X dX4_isInForce_21 (q := 22) rfl 0 rfl ?_
      refine j_get X (v := .ref (am 13)) fl_X4_37 hM.obj rfl dX4_isInForce_22 (q := 25) rfl ?_
      refine j_iload_n X dX4_isInForce_25 (q := 26) rfl 1 rfl ?_
      refine jm_zald X hM 13 (by decide) rfl (by omega) (by show _ < (12 : Int); omega) dX4_isInForce_26 (q := 27) rfl ?_
      refine j_if_ne X (tgt := 34) dX4_isInForce_27 (by decide) (q := 30) rfl (by omega) (fun c_27 => ?_) (fun c_27 => ?_)
      · skip
        refine j_iconst X (a := 0) dX4_isInForce_34 (q := 35) rfl ?_
        exact j_zret X rfl (Or.inl rfl) dX4_isInForce_35 (⟨by rw [inM, tf_f (by omega)], rfl⟩) (by decide) (by decide)
      · skip
        refine j_iconst X (a := 1) dX4_isInForce_30 (q := 31) rfl ?_
        refine j_goto X (tgt := 35) dX4_isInForce_31 (by decide) ?_
        exact j_zret X rfl (Or.inr rfl) dX4_isInForce_35 (⟨by rw [inM, tf_t (by omega)], rfl⟩) (by decide) (by decide)

set_option maxRecDepth 100000 in
set_option maxHeartbeats 4000000 in
theorem c_X4_firstDistrusted {l : Launch} (hlt : l.stackTraces = false) {D : va_G} {ca : Nat → ClassId} {base : Nat} {am : Nat → Nat} {th : Int} {n nm : Int} {T : St} {w : Wd} (hM : MW base ca am th T w) (hI : MI n nm T) (u : Int) (hu : -1 ≤ u ∧ u < n) : CT l D ca base yX4_firstDistrusted cX4_firstDistrusted 3 (some .int) 2 0 0 [.ref (am 0), .int (iI (u))] w (fun v w' => v = some (.int (iI (fof (T 4) (inM T) 12 u))) ∧ w = w') (fun _ _ => False) := by
  obtain ⟨hn, hnm, e2, e18, h1t, h3t⟩ := hI.top
  refine CT.mk hlt (by decide +kernel) (by first | exact Nat.le_of_ble_eq_true rfl | simp [lg_sl, cat_rf, cat_i, cat_l, cat_r]) ?_
  intro p e s m args below meth c X htab
  rw [show lv_args 0 [.ref (am 0), .int (iI (u))] = [(0, .ref (am 0)), (1, .int (iI (u)))] from by first | rfl | simp [lv_args, cat_rf, cat_i, cat_l, cat_r]]
  refine j_iload_n X dX4_firstDistrusted_0 (q := 1) rfl 1 rfl ?_
  refine j_istore_n X (i := 2) dX4_firstDistrusted_1 rfl (by decide) (q := 2) rfl (lv' := [(2, .int (iI (u))), (0, .ref (am 0)), (1, .int (iI (u)))]) (by first | rfl | simp [cat_rf, cat_i, cat_l, cat_r]) ?_
  have loop : ∀ (kk : Nat) (a : Int), (-1 ≤ a ∧ a < n) → ends (T 4) kk a → fof (T 4) (inM T) 12 u = fof (T 4) (inM T) kk a → J p l e (Rm 2 0 0) s m args below meth c (vx_MQ below (Qn D base (fun v w' => v = some (.int (iI (fof (T 4) (inM T) 12 u))) ∧ w = w')) (Xn D base (fun _ _ => False)) args s 0 0 (fun q => base ≤ q)) D base 3 0 0 2 [(0, .ref (am 0)), (2, .int (iI (a)))] [] w := by
    intro kk
    induction kk using Nat.strongRecOn with
    | ind kk ih =>
      intro a ha hk hv
      refine j_iload_n X dX4_firstDistrusted_2 (q := 3) rfl 1 rfl ?_
      refine j_iconst X (a := -1) dX4_firstDistrusted_3 (q := 4) rfl ?_
      refine j_icmp_eq X (tgt := 25) dX4_firstDistrusted_4 (by decide) (q := 7) rfl (by omega) (by omega) (fun c_4 => ?_) (fun c_4 => ?_)
      · skip
        refine j_iload_n X dX4_firstDistrusted_25 (q := 26) rfl 1 rfl ?_
        exact j_iret X rfl dX4_firstDistrusted_26 (⟨by rw [hv, fof_n (by omega), c_4], rfl⟩) (by decide) (by decide)
      · skip
        obtain ⟨t_7_0, t_7_1, t_7_2, t_7_3, t_7_4, t_7_5, t_7_6, t_7_7, t_7_8, t_7_9, t_7_10, t_7_11⟩ := hI.ins (i := a) (by omega) (by omega)
        obtain ⟨j9, rfl, hk9⟩ := ends_pos hk (by omega)
        refine j_aload_n X dX4_firstDistrusted_7 (q := 8) rfl 0 rfl ?_
        refine j_iload_n X dX4_firstDistrusted_8 (q := 9) rfl 1 rfl ?_
        refine j_callV X (As := [.int (iI (a))]) (st := []) hM.obj rfl (c_X4_isInForce hlt hM hI a (by omega)) sv_X4_86 (by decide) rfl (by first | decide | exact Nat.le_of_ble_eq_true rfl | simp [cat_rf, cat_i, cat_l, cat_r]) dX4_firstDistrusted_9 (by decide) (fun _ _ h => h.elim) ?_
        rintro v9 w9 ⟨rfl, rfl⟩
        refine j_st (st := [.int (iI (inM T a))]) ?_
        have hb9 := inM_b T a
        refine j_if_eq X (tgt := 25) dX4_firstDistrusted_12 (by decide) (q := 15) rfl (by omega) (fun c_12 => ?_) (fun c_12 => ?_)
        · skip
          refine j_iload_n X dX4_firstDistrusted_25 (q := 26) rfl 1 rfl ?_
          exact j_iret X rfl dX4_firstDistrusted_26 (⟨by rw [hv, fof_e (by omega) c_12], rfl⟩) (by decide) (by decide)
        · skip
          refine j_aload_n X dX4_firstDistrusted_15 (q := 16) rfl 0 rfl ?_
          refine j_get X (v := .ref (am 4)) fl_X4_7 hM.obj rfl dX4_firstDistrusted_16 (q := 19) rfl ?_
          refine j_iload_n X dX4_firstDistrusted_19 (q := 20) rfl 1 rfl ?_
          refine jm_iald X hM 4 (by decide) rfl (by omega) (by show _ < (12 : Int); omega) dX4_firstDistrusted_20 (q := 21) rfl ?_
          refine j_istore_n X (i := 2) dX4_firstDistrusted_21 rfl (by decide) (q := 22) rfl (lv' := [(2, .int (iI (T 4 a))), (0, .ref (am 0))]) (by first | rfl | simp [cat_rf, cat_i, cat_l, cat_r]) ?_
          refine j_goto X (tgt := 2) dX4_firstDistrusted_22 (by decide) ?_
          exact j_lv (ih j9 (by omega) (T 4 a) (by omega) hk9 (hv.trans (fof_s (by omega) c_12))) [1, 0] rfl
  exact j_lv (loop 12 u hu (hI.ends hu.1 hu.2) rfl) [1, 0] rfl

set_option maxRecDepth 100000 in
set_option maxHeartbeats 4000000 in
theorem c_X4_isInChain {l : Launch} (hlt : l.stackTraces = false) {D : va_G} {ca : Nat → ClassId} {base : Nat} {am : Nat → Nat} {th : Int} {n nm : Int} {T : St} {w : Wd} (hM : MW base ca am th T w) (hI : MI n nm T) (i u : Int) (hi : 0 ≤ i ∧ i < n) (hu : -1 ≤ u ∧ u < n) : CT l D ca base yX4_isInChain cX4_isInChain 4 (some .boolean) 0 0 0 [.ref (am 0), .int (iI (i)), .int (iI (u))] w (fun v w' => v = some (.int (iI (inCh (T 4) 12 u i))) ∧ w = w') (fun _ _ => False) := by
  obtain ⟨hn, hnm, e2, e18, h1t, h3t⟩ := hI.top
  refine CT.mk hlt (by decide +kernel) (by first | exact Nat.le_of_ble_eq_true rfl | simp [lg_sl, cat_rf, cat_i, cat_l, cat_r]) ?_
  intro p e s m args below meth c X htab
  rw [show lv_args 0 [.ref (am 0), .int (iI (i)), .int (iI (u))] = [(0, .ref (am 0)), (1, .int (iI (i))), (2, .int (iI (u)))] from by first | rfl | simp [lv_args, cat_rf, cat_i, cat_l, cat_r]]
  refine j_iload_n X dX4_isInChain_0 (q := 1) rfl 2 rfl ?_
  refine j_istore_n X (i := 3) dX4_isInChain_1 rfl (by decide) (q := 2) rfl (lv' := [(3, .int (iI (u))), (0, .ref (am 0)), (1, .int (iI (i))), (2, .int (iI (u)))]) (by first | rfl | simp [cat_rf, cat_i, cat_l, cat_r]) ?_
  have loop : ∀ (kk : Nat) (a : Int), (-1 ≤ a ∧ a < n) → ends (T 4) kk a → inCh (T 4) 12 u i = inCh (T 4) kk a i → J p l e (Rm 0 0 0) s m args below meth c (vx_MQ below (Qn D base (fun v w' => v = some (.int (iI (inCh (T 4) 12 u i))) ∧ w = w')) (Xn D base (fun _ _ => False)) args s 0 0 (fun q => base ≤ q)) D base 4 0 0 2 [(0, .ref (am 0)), (1, .int (iI (i))), (3, .int (iI (a)))] [] w := by
    intro kk
    induction kk using Nat.strongRecOn with
    | ind kk ih =>
      intro a ha hk hv
      refine j_iload_n X dX4_isInChain_2 (q := 3) rfl 2 rfl ?_
      refine j_iconst X (a := -1) dX4_isInChain_3 (q := 4) rfl ?_
      refine j_icmp_eq X (tgt := 22) dX4_isInChain_4 (by decide) (q := 7) rfl (by omega) (by omega) (fun c_4 => ?_) (fun c_4 => ?_)
      · skip
        refine j_iload_n X dX4_isInChain_22 (q := 23) rfl 2 rfl ?_
        refine j_iload_n X dX4_isInChain_23 (q := 24) rfl 1 rfl ?_
        refine j_icmp_ne X (tgt := 31) dX4_isInChain_24 (by decide) (q := 27) rfl (by omega) (by omega) (fun c_24 => ?_) (fun c_24 => ?_)
        · skip
          refine j_iconst X (a := 0) dX4_isInChain_31 (q := 32) rfl ?_
          exact j_zret X rfl (Or.inl rfl) dX4_isInChain_32 (⟨by rw [hv, inCh_n (by omega)], rfl⟩) (by decide) (by decide)
        · skip
          exact absurd c_24 (by omega)
      · skip
        obtain ⟨t_8_0, t_8_1, t_8_2, t_8_3, t_8_4, t_8_5, t_8_6, t_8_7, t_8_8, t_8_9, t_8_10, t_8_11⟩ := hI.ins (i := a) (by omega) (by omega)
        obtain ⟨j9, rfl, hk9⟩ := ends_pos hk (by omega)
        refine j_iload_n X dX4_isInChain_7 (q := 8) rfl 2 rfl ?_
        refine j_iload_n X dX4_isInChain_8 (q := 9) rfl 1 rfl ?_
        refine j_icmp_eq X (tgt := 22) dX4_isInChain_9 (by decide) (q := 12) rfl (by omega) (by omega) (fun c_9 => ?_) (fun c_9 => ?_)
        · skip
          refine j_iload_n X dX4_isInChain_22 (q := 23) rfl 2 rfl ?_
          refine j_iload_n X dX4_isInChain_23 (q := 24) rfl 1 rfl ?_
          refine j_icmp_ne X (tgt := 31) dX4_isInChain_24 (by decide) (q := 27) rfl (by omega) (by omega) (fun c_24 => ?_) (fun c_24 => ?_)
          · skip
            exact absurd c_9 c_24
          · skip
            refine j_iconst X (a := 1) dX4_isInChain_27 (q := 28) rfl ?_
            refine j_goto X (tgt := 32) dX4_isInChain_28 (by decide) ?_
            exact j_zret X rfl (Or.inr rfl) dX4_isInChain_32 (⟨by rw [hv, inCh_e (by omega) c_9], rfl⟩) (by decide) (by decide)
        · skip
          refine j_aload_n X dX4_isInChain_12 (q := 13) rfl 0 rfl ?_
          refine j_get X (v := .ref (am 4)) fl_X4_7 hM.obj rfl dX4_isInChain_13 (q := 16) rfl ?_
          refine j_iload_n X dX4_isInChain_16 (q := 17) rfl 2 rfl ?_
          refine jm_iald X hM 4 (by decide) rfl (by omega) (by show _ < (12 : Int); omega) dX4_isInChain_17 (q := 18) rfl ?_
          refine j_istore_n X (i := 3) dX4_isInChain_18 rfl (by decide) (q := 19) rfl (lv' := [(3, .int (iI (T 4 a))), (0, .ref (am 0)), (1, .int (iI (i)))]) (by first | rfl | simp [cat_rf, cat_i, cat_l, cat_r]) ?_
          refine j_goto X (tgt := 2) dX4_isInChain_19 (by decide) ?_
          exact j_lv (ih j9 (by omega) (T 4 a) (by omega) hk9 (hv.trans (inCh_s (by omega) c_9))) [1, 2, 0] rfl
  exact j_lv (loop 12 u hu (hI.ends hu.1 hu.2) rfl) [1, 2, 0] rfl

set_option maxRecDepth 100000 in
set_option maxHeartbeats 4000000 in
theorem c_X4_intervalOf {l : Launch} (hlt : l.stackTraces = false) {D : va_G} {ca : Nat → ClassId} {base : Nat} {am : Nat → Nat} {th : Int} {n nm : Int} {T : St} {w : Wd} (hM : MW base ca am th T w) (hI : MI n nm T) (z : Int) (hz : -2147483648 ≤ z ∧ z ≤ 2147483647) : CT l D ca base yX4_intervalOf cX4_intervalOf 2 (some .int) 3 0 0 [.ref (am 0), .int (iI (z))] w (fun v w' => v = some (.int (iI (if 0 ≤ z ∧ z < n then T 7 z else 0))) ∧ MW base ca am (if 0 ≤ z ∧ z < n then 0 else 1) T w' ∧ Fr 1 w w') (fun _ _ => False) := by
  obtain ⟨hn, hnm, e2, e18, h1t, h3t⟩ := hI.top
  refine CT.mk hlt (by decide +kernel) (by first | exact Nat.le_of_ble_eq_true rfl | simp [lg_sl, cat_rf, cat_i, cat_l, cat_r]) ?_
  intro p e s m args below meth c X htab
  rw [show lv_args 0 [.ref (am 0), .int (iI (z))] = [(0, .ref (am 0)), (1, .int (iI (z)))] from by first | rfl | simp [lv_args, cat_rf, cat_i, cat_l, cat_r]]
  refine j_aload_n X dX4_intervalOf_0 (q := 1) rfl 0 rfl ?_
  refine j_iload_n X dX4_intervalOf_1 (q := 2) rfl 1 rfl ?_
  refine j_callV X (As := [.int (iI (z))]) (st := []) hM.obj rfl (c_X4_isAsked hlt hM hI z hz) sv_X4_121 (by decide) rfl (by first | decide | exact Nat.le_of_ble_eq_true rfl | simp [cat_rf, cat_i, cat_l, cat_r]) dX4_intervalOf_2 (by decide) (fun _ _ h => h.elim) ?_
  rintro v9 w9 ⟨rfl, hM9, hF9⟩
  refine j_st (st := [.int (iI (tf (0 ≤ z ∧ z < n)))]) ?_
  have hb9 := tf_b (0 ≤ z ∧ z < n)
  refine j_if_eq X (tgt := 17) dX4_intervalOf_5 (by decide) (q := 8) rfl (by omega) (fun c_5 => ?_) (fun c_5 => ?_)
  · skip
    have k1 : ¬ (0 ≤ z ∧ z < n) := tf_0 c_5
    rw [if_neg k1] at hM9
    refine j_iconst X (a := 0) dX4_intervalOf_17 (q := 18) rfl ?_
    exact j_iret X rfl dX4_intervalOf_18 (⟨by rw [if_neg k1], by rw [if_neg k1]; exact hM9, hF9⟩) (by decide) (by decide)
  · skip
    have k1 : 0 ≤ z ∧ z < n := tf_1 c_5
    rw [if_pos k1] at hM9
    obtain ⟨t_9_0, t_9_1, t_9_2, t_9_3, t_9_4, t_9_5, t_9_6, t_9_7, t_9_8, t_9_9, t_9_10, t_9_11⟩ := hI.ins (i := z) k1.1 k1.2
    refine j_aload_n X dX4_intervalOf_8 (q := 9) rfl 0 rfl ?_
    refine j_get X (v := .ref (am 7)) fl_X4_19 hM9.obj rfl dX4_intervalOf_9 (q := 12) rfl ?_
    refine j_iload_n X dX4_intervalOf_12 (q := 13) rfl 1 rfl ?_
    refine jm_iald X hM9 7 (by decide) rfl (by omega) (by show _ < (12 : Int); omega) dX4_intervalOf_13 (q := 14) rfl ?_
    refine j_goto X (tgt := 18) dX4_intervalOf_14 (by decide) ?_
    exact j_iret X rfl dX4_intervalOf_18 (⟨by rw [if_pos k1], by rw [if_pos k1]; exact hM9, hF9⟩) (by decide) (by decide)

set_option maxRecDepth 100000 in
set_option maxHeartbeats 4000000 in
theorem c_X4_failures {l : Launch} (hlt : l.stackTraces = false) {D : va_G} {ca : Nat → ClassId} {base : Nat} {am : Nat → Nat} {th : Int} {n nm : Int} {T : St} {w : Wd} (hM : MW base ca am th T w) (hI : MI n nm T) (z : Int) (hz : -2147483648 ≤ z ∧ z ≤ 2147483647) : CT l D ca base yX4_failures cX4_failures 2 (some .int) 3 0 0 [.ref (am 0), .int (iI (z))] w (fun v w' => v = some (.int (iI (if 0 ≤ z ∧ z < n then T 14 z else 0))) ∧ MW base ca am (if 0 ≤ z ∧ z < n then 0 else 1) T w' ∧ Fr 1 w w') (fun _ _ => False) := by
  obtain ⟨hn, hnm, e2, e18, h1t, h3t⟩ := hI.top
  refine CT.mk hlt (by decide +kernel) (by first | exact Nat.le_of_ble_eq_true rfl | simp [lg_sl, cat_rf, cat_i, cat_l, cat_r]) ?_
  intro p e s m args below meth c X htab
  rw [show lv_args 0 [.ref (am 0), .int (iI (z))] = [(0, .ref (am 0)), (1, .int (iI (z)))] from by first | rfl | simp [lv_args, cat_rf, cat_i, cat_l, cat_r]]
  refine j_aload_n X dX4_failures_0 (q := 1) rfl 0 rfl ?_
  refine j_iload_n X dX4_failures_1 (q := 2) rfl 1 rfl ?_
  refine j_callV X (As := [.int (iI (z))]) (st := []) hM.obj rfl (c_X4_isAsked hlt hM hI z hz) sv_X4_121 (by decide) rfl (by first | decide | exact Nat.le_of_ble_eq_true rfl | simp [cat_rf, cat_i, cat_l, cat_r]) dX4_failures_2 (by decide) (fun _ _ h => h.elim) ?_
  rintro v9 w9 ⟨rfl, hM9, hF9⟩
  refine j_st (st := [.int (iI (tf (0 ≤ z ∧ z < n)))]) ?_
  have hb9 := tf_b (0 ≤ z ∧ z < n)
  refine j_if_eq X (tgt := 17) dX4_failures_5 (by decide) (q := 8) rfl (by omega) (fun c_5 => ?_) (fun c_5 => ?_)
  · skip
    have k1 : ¬ (0 ≤ z ∧ z < n) := tf_0 c_5
    rw [if_neg k1] at hM9
    refine j_iconst X (a := 0) dX4_failures_17 (q := 18) rfl ?_
    exact j_iret X rfl dX4_failures_18 (⟨by rw [if_neg k1], by rw [if_neg k1]; exact hM9, hF9⟩) (by decide) (by decide)
  · skip
    have k1 : 0 ≤ z ∧ z < n := tf_1 c_5
    rw [if_pos k1] at hM9
    obtain ⟨t_10_0, t_10_1, t_10_2, t_10_3, t_10_4, t_10_5, t_10_6, t_10_7, t_10_8, t_10_9, t_10_10, t_10_11⟩ := hI.ins (i := z) k1.1 k1.2
    refine j_aload_n X dX4_failures_8 (q := 9) rfl 0 rfl ?_
    refine j_get X (v := .ref (am 14)) fl_X4_41 hM9.obj rfl dX4_failures_9 (q := 12) rfl ?_
    refine j_iload_n X dX4_failures_12 (q := 13) rfl 1 rfl ?_
    refine jm_iald X hM9 14 (by decide) rfl (by omega) (by show _ < (12 : Int); omega) dX4_failures_13 (q := 14) rfl ?_
    refine j_goto X (tgt := 18) dX4_failures_14 (by decide) ?_
    exact j_iret X rfl dX4_failures_18 (⟨by rw [if_pos k1], by rw [if_pos k1]; exact hM9, hF9⟩) (by decide) (by decide)

set_option maxRecDepth 100000 in
set_option maxHeartbeats 4000000 in
theorem c_X4_dueOf {l : Launch} (hlt : l.stackTraces = false) {D : va_G} {ca : Nat → ClassId} {base : Nat} {am : Nat → Nat} {th : Int} {n nm : Int} {T : St} {w : Wd} (hM : MW base ca am th T w) (hI : MI n nm T) (z : Int) (hz : -2147483648 ≤ z ∧ z ≤ 2147483647) : CT l D ca base yX4_dueOf cX4_dueOf 2 (some .int) 3 0 0 [.ref (am 0), .int (iI (z))] w (fun v w' => v = some (.int (iI (if 0 ≤ z ∧ z < n then (if 0 < T 8 z then T 11 z else -1) else 0))) ∧ MW base ca am (if 0 ≤ z ∧ z < n then 0 else 1) T w' ∧ Fr 1 w w') (fun _ _ => False) := by
  obtain ⟨hn, hnm, e2, e18, h1t, h3t⟩ := hI.top
  refine CT.mk hlt (by decide +kernel) (by first | exact Nat.le_of_ble_eq_true rfl | simp [lg_sl, cat_rf, cat_i, cat_l, cat_r]) ?_
  intro p e s m args below meth c X htab
  rw [show lv_args 0 [.ref (am 0), .int (iI (z))] = [(0, .ref (am 0)), (1, .int (iI (z)))] from by first | rfl | simp [lv_args, cat_rf, cat_i, cat_l, cat_r]]
  refine j_aload_n X dX4_dueOf_0 (q := 1) rfl 0 rfl ?_
  refine j_iload_n X dX4_dueOf_1 (q := 2) rfl 1 rfl ?_
  refine j_callV X (As := [.int (iI (z))]) (st := []) hM.obj rfl (c_X4_isAsked hlt hM hI z hz) sv_X4_121 (by decide) rfl (by first | decide | exact Nat.le_of_ble_eq_true rfl | simp [cat_rf, cat_i, cat_l, cat_r]) dX4_dueOf_2 (by decide) (fun _ _ h => h.elim) ?_
  rintro v9 w9 ⟨rfl, hM9, hF9⟩
  refine j_st (st := [.int (iI (tf (0 ≤ z ∧ z < n)))]) ?_
  have hb9 := tf_b (0 ≤ z ∧ z < n)
  refine j_if_ne X (tgt := 10) dX4_dueOf_5 (by decide) (q := 8) rfl (by omega) (fun c_5 => ?_) (fun c_5 => ?_)
  · skip
    have k1 : 0 ≤ z ∧ z < n := tf_1 c_5
    rw [if_pos k1] at hM9
    obtain ⟨t_11_0, t_11_1, t_11_2, t_11_3, t_11_4, t_11_5, t_11_6, t_11_7, t_11_8, t_11_9, t_11_10, t_11_11⟩ := hI.ins (i := z) k1.1 k1.2
    refine j_aload_n X dX4_dueOf_10 (q := 11) rfl 0 rfl ?_
    refine j_iload_n X dX4_dueOf_11 (q := 12) rfl 1 rfl ?_
    refine j_callV X (As := [.int (iI (z))]) (st := []) hM9.obj rfl (c_X4_isCalibrated hlt hM9 hI z k1) sv_X4_83 (by decide) rfl (by first | decide | exact Nat.le_of_ble_eq_true rfl | simp [cat_rf, cat_i, cat_l, cat_r]) dX4_dueOf_12 (by decide) (fun _ _ h => h.elim) ?_
    rintro v9 w9 ⟨rfl, rfl⟩
    refine j_st (st := [.int (iI (tf (0 < T 8 z)))]) ?_
    have hb8 := tf_b (0 < T 8 z)
    refine j_if_eq X (tgt := 27) dX4_dueOf_15 (by decide) (q := 18) rfl (by omega) (fun c_15 => ?_) (fun c_15 => ?_)
    · skip
      refine j_iconst X (a := -1) dX4_dueOf_27 (q := 28) rfl ?_
      exact j_iret X rfl dX4_dueOf_28 (⟨by rw [if_pos k1, if_neg (tf_0 c_15)], by rw [if_pos k1]; exact hM9, hF9⟩) (by decide) (by decide)
    · skip
      refine j_aload_n X dX4_dueOf_18 (q := 19) rfl 0 rfl ?_
      refine j_get X (v := .ref (am 11)) fl_X4_31 hM9.obj rfl dX4_dueOf_19 (q := 22) rfl ?_
      refine j_iload_n X dX4_dueOf_22 (q := 23) rfl 1 rfl ?_
      refine jm_iald X hM9 11 (by decide) rfl (by omega) (by show _ < (12 : Int); omega) dX4_dueOf_23 (q := 24) rfl ?_
      refine j_goto X (tgt := 28) dX4_dueOf_24 (by decide) ?_
      exact j_iret X rfl dX4_dueOf_28 (⟨by rw [if_pos k1, if_pos (tf_1 c_15)], by rw [if_pos k1]; exact hM9, hF9⟩) (by decide) (by decide)
  · skip
    have k1 : ¬ (0 ≤ z ∧ z < n) := tf_0 c_5
    rw [if_neg k1] at hM9
    refine j_iconst X (a := 0) dX4_dueOf_8 (q := 9) rfl ?_
    exact j_iret X rfl dX4_dueOf_9 (⟨by rw [if_neg k1], by rw [if_neg k1]; exact hM9, hF9⟩) (by decide) (by decide)

set_option maxRecDepth 100000 in
set_option maxHeartbeats 4000000 in
theorem c_X4_isSuspect {l : Launch} (hlt : l.stackTraces = false) {D : va_G} {ca : Nat → ClassId} {base : Nat} {am : Nat → Nat} {th : Int} {n nm : Int} {T : St} {w : Wd} (hM : MW base ca am th T w) (hI : MI n nm T) (z : Int) (hz : -2147483648 ≤ z ∧ z ≤ 2147483647) : CT l D ca base yX4_isSuspect cX4_isSuspect 2 (some .boolean) 3 0 0 [.ref (am 0), .int (iI (z))] w (fun v w' => v = some (.int (iI (if 0 ≤ z ∧ z < n then T 13 z else 0))) ∧ MW base ca am (if 0 ≤ z ∧ z < n then 0 else 1) T w' ∧ Fr 1 w w') (fun _ _ => False) := by
  obtain ⟨hn, hnm, e2, e18, h1t, h3t⟩ := hI.top
  refine CT.mk hlt (by decide +kernel) (by first | exact Nat.le_of_ble_eq_true rfl | simp [lg_sl, cat_rf, cat_i, cat_l, cat_r]) ?_
  intro p e s m args below meth c X htab
  rw [show lv_args 0 [.ref (am 0), .int (iI (z))] = [(0, .ref (am 0)), (1, .int (iI (z)))] from by first | rfl | simp [lv_args, cat_rf, cat_i, cat_l, cat_r]]
  refine j_aload_n X dX4_isSuspect_0 (q := 1) rfl 0 rfl ?_
  refine j_iload_n X dX4_isSuspect_1 (q := 2) rfl 1 rfl ?_
  refine j_callV X (As := [.int (iI (z))]) (st := []) hM.obj rfl (c_X4_isAsked hlt hM hI z hz) sv_X4_121 (by decide) rfl (by first | decide | exact Nat.le_of_ble_eq_true rfl | simp [cat_rf, cat_i, cat_l, cat_r]) dX4_isSuspect_2 (by decide) (fun _ _ h => h.elim) ?_
  rintro v9 w9 ⟨rfl, hM9, hF9⟩
  refine j_st (st := [.int (iI (tf (0 ≤ z ∧ z < n)))]) ?_
  have hb9 := tf_b (0 ≤ z ∧ z < n)
  refine j_if_eq X (tgt := 21) dX4_isSuspect_5 (by decide) (q := 8) rfl (by omega) (fun c_5 => ?_) (fun c_5 => ?_)
  · skip
    have k1 : ¬ (0 ≤ z ∧ z < n) := tf_0 c_5
    rw [if_neg k1] at hM9
    refine j_iconst X (a := 0) dX4_isSuspect_21 (q := 22) rfl ?_
    exact j_zret X rfl (by first | exact Or.inl rfl | exact Or.inr rfl) dX4_isSuspect_22 (⟨by rw [if_neg k1], by rw [if_neg k1]; exact hM9, hF9⟩) (by decide) (by decide)
  · skip
    have k1 : 0 ≤ z ∧ z < n := tf_1 c_5
    rw [if_pos k1] at hM9
    obtain ⟨t_12_0, t_12_1, t_12_2, t_12_3, t_12_4, t_12_5, t_12_6, t_12_7, t_12_8, t_12_9, t_12_10, t_12_11⟩ := hI.ins (i := z) k1.1 k1.2
    refine j_aload_n X dX4_isSuspect_8 (q := 9) rfl 0 rfl ?_
    refine j_get X (v := .ref (am 13)) fl_X4_37 hM9.obj rfl dX4_isSuspect_9 (q := 12) rfl ?_
    refine j_iload_n X dX4_isSuspect_12 (q := 13) rfl 1 rfl ?_
    refine jm_zald X hM9 13 (by decide) rfl (by omega) (by show _ < (12 : Int); omega) dX4_isSuspect_13 (q := 14) rfl ?_
    refine j_if_eq X (tgt := 21) dX4_isSuspect_14 (by decide) (q := 17) rfl (by omega) (fun c_14 => ?_) (fun c_14 => ?_)
    · skip
      refine j_iconst X (a := 0) dX4_isSuspect_21 (q := 22) rfl ?_
      exact j_zret X rfl (by first | exact Or.inl rfl | exact Or.inr rfl) dX4_isSuspect_22 (⟨by rw [if_pos k1, c_14], by rw [if_pos k1]; exact hM9, hF9⟩) (by decide) (by decide)
    · skip
      refine j_iconst X (a := 1) dX4_isSuspect_17 (q := 18) rfl ?_
      refine j_goto X (tgt := 22) dX4_isSuspect_18 (by decide) ?_
      exact j_zret X rfl (by first | exact Or.inl rfl | exact Or.inr rfl) dX4_isSuspect_22 (⟨by rw [if_pos k1, show T 13 z = 1 by omega], by rw [if_pos k1]; exact hM9, hF9⟩) (by decide) (by decide)

set_option maxRecDepth 100000 in
set_option maxHeartbeats 4000000 in
theorem c_X4_distrusted {l : Launch} (hlt : l.stackTraces = false) {D : va_G} {ca : Nat → ClassId} {base : Nat} {am : Nat → Nat} {th : Int} {n nm : Int} {T : St} {w : Wd} (hM : MW base ca am th T w) (hI : MI n nm T) (z : Int) (hz : -2147483648 ≤ z ∧ z ≤ 2147483647) : CT l D ca base yX4_distrusted cX4_distrusted 2 (some .int) 3 0 0 [.ref (am 0), .int (iI (z))] w (fun v w' => v = some (.int (iI (if 0 ≤ z ∧ z < n then fof (T 4) (inM T) 12 z else 0))) ∧ MW base ca am (if 0 ≤ z ∧ z < n then 0 else 1) T w' ∧ Fr 1 w w') (fun _ _ => False) := by
  obtain ⟨hn, hnm, e2, e18, h1t, h3t⟩ := hI.top
  refine CT.mk hlt (by decide +kernel) (by first | exact Nat.le_of_ble_eq_true rfl | simp [lg_sl, cat_rf, cat_i, cat_l, cat_r]) ?_
  intro p e s m args below meth c X htab
  rw [show lv_args 0 [.ref (am 0), .int (iI (z))] = [(0, .ref (am 0)), (1, .int (iI (z)))] from by first | rfl | simp [lv_args, cat_rf, cat_i, cat_l, cat_r]]
  refine j_aload_n X dX4_distrusted_0 (q := 1) rfl 0 rfl ?_
  refine j_iload_n X dX4_distrusted_1 (q := 2) rfl 1 rfl ?_
  refine j_callV X (As := [.int (iI (z))]) (st := []) hM.obj rfl (c_X4_isAsked hlt hM hI z hz) sv_X4_121 (by decide) rfl (by first | decide | exact Nat.le_of_ble_eq_true rfl | simp [cat_rf, cat_i, cat_l, cat_r]) dX4_distrusted_2 (by decide) (fun _ _ h => h.elim) ?_
  rintro v9 w9 ⟨rfl, hM9, hF9⟩
  refine j_st (st := [.int (iI (tf (0 ≤ z ∧ z < n)))]) ?_
  have hb9 := tf_b (0 ≤ z ∧ z < n)
  refine j_if_eq X (tgt := 16) dX4_distrusted_5 (by decide) (q := 8) rfl (by omega) (fun c_5 => ?_) (fun c_5 => ?_)
  · skip
    have k1 : ¬ (0 ≤ z ∧ z < n) := tf_0 c_5
    rw [if_neg k1] at hM9
    refine j_iconst X (a := 0) dX4_distrusted_16 (q := 17) rfl ?_
    exact j_iret X rfl dX4_distrusted_17 (⟨by rw [if_neg k1], by rw [if_neg k1]; exact hM9, hF9⟩) (by decide) (by decide)
  · skip
    have k1 : 0 ≤ z ∧ z < n := tf_1 c_5
    rw [if_pos k1] at hM9
    obtain ⟨t_13_0, t_13_1, t_13_2, t_13_3, t_13_4, t_13_5, t_13_6, t_13_7, t_13_8, t_13_9, t_13_10, t_13_11⟩ := hI.ins (i := z) k1.1 k1.2
    refine j_aload_n X dX4_distrusted_8 (q := 9) rfl 0 rfl ?_
    refine j_iload_n X dX4_distrusted_9 (q := 10) rfl 1 rfl ?_
    refine j_callV X (As := [.int (iI (z))]) (st := []) hM9.obj rfl (c_X4_firstDistrusted hlt hM9 hI z (by omega)) sv_X4_105 (by decide) rfl (by first | decide | exact Nat.le_of_ble_eq_true rfl | simp [cat_rf, cat_i, cat_l, cat_r]) dX4_distrusted_10 (by decide) (fun _ _ h => h.elim) ?_
    rintro v9 w9 ⟨rfl, rfl⟩
    refine j_st (st := [.int (iI (fof (T 4) (inM T) 12 z))]) ?_
    refine j_goto X (tgt := 17) dX4_distrusted_13 (by decide) ?_
    exact j_iret X rfl dX4_distrusted_17 (⟨by rw [if_pos k1], by rw [if_pos k1]; exact hM9, hF9⟩) (by decide) (by decide)

set_option maxRecDepth 100000 in
set_option maxHeartbeats 4000000 in
theorem c_X4_chain {l : Launch} (hlt : l.stackTraces = false) {D : va_G} {ca : Nat → ClassId} {base : Nat} {am : Nat → Nat} {th : Int} {n nm : Int} {T : St} {w : Wd} (hM : MW base ca am th T w) (hI : MI n nm T) (z : Int) (hz : -2147483648 ≤ z ∧ z ≤ 2147483647) : CT l D ca base yX4_chain cX4_chain 4 (some .int) 3 0 0 [.ref (am 0), .int (iI (z))] w (fun v w' => v = some (.int (iI (if 0 ≤ z ∧ z < n then len (T 4) 12 z else 0))) ∧ MW base ca am (if 0 ≤ z ∧ z < n then 0 else 1) T w' ∧ Fr 1 w w') (fun _ _ => False) := by
  obtain ⟨hn, hnm, e2, e18, h1t, h3t⟩ := hI.top
  refine CT.mk hlt (by decide +kernel) (by first | exact Nat.le_of_ble_eq_true rfl | simp [lg_sl, cat_rf, cat_i, cat_l, cat_r]) ?_
  intro p e s m args below meth c X htab
  rw [show lv_args 0 [.ref (am 0), .int (iI (z))] = [(0, .ref (am 0)), (1, .int (iI (z)))] from by first | rfl | simp [lv_args, cat_rf, cat_i, cat_l, cat_r]]
  refine j_aload_n X dX4_chain_0 (q := 1) rfl 0 rfl ?_
  refine j_iload_n X dX4_chain_1 (q := 2) rfl 1 rfl ?_
  refine j_callV X (As := [.int (iI (z))]) (st := []) hM.obj rfl (c_X4_isAsked hlt hM hI z hz) sv_X4_121 (by decide) rfl (by first | decide | exact Nat.le_of_ble_eq_true rfl | simp [cat_rf, cat_i, cat_l, cat_r]) dX4_chain_2 (by decide) (fun _ _ h => h.elim) ?_
  rintro v9 w9 ⟨rfl, hM9, hF9⟩
  refine j_st (st := [.int (iI (tf (0 ≤ z ∧ z < n)))]) ?_
  have hb9 := tf_b (0 ≤ z ∧ z < n)
  refine j_if_ne X (tgt := 10) dX4_chain_5 (by decide) (q := 8) rfl (by omega) (fun c_5 => ?_) (fun c_5 => ?_)
  · skip
    have k1 : 0 ≤ z ∧ z < n := tf_1 c_5
    rw [if_pos k1] at hM9
    obtain ⟨t_14_0, t_14_1, t_14_2, t_14_3, t_14_4, t_14_5, t_14_6, t_14_7, t_14_8, t_14_9, t_14_10, t_14_11⟩ := hI.ins (i := z) k1.1 k1.2
    refine j_iconst X (a := 0) dX4_chain_10 (q := 11) rfl ?_
    refine j_istore_n X (i := 2) dX4_chain_11 rfl (by decide) (q := 12) rfl (lv' := [(2, .int (iI (0))), (0, .ref (am 0)), (1, .int (iI (z)))]) (by first | rfl | simp [cat_rf, cat_i, cat_l, cat_r]) ?_
    refine j_iload_n X dX4_chain_12 (q := 13) rfl 2 rfl ?_
    refine j_istore_n X (i := 3) dX4_chain_13 rfl (by decide) (q := 14) rfl (lv' := [(3, .int (iI (z))), (2, .int (iI (0))), (0, .ref (am 0)), (1, .int (iI (z)))]) (by first | rfl | simp [cat_rf, cat_i, cat_l, cat_r]) ?_
    have loop : ∀ (kk : Nat) (a acc : Int), (-1 ≤ a ∧ a < n) → (0 ≤ acc ∧ acc + kk ≤ 12) → ends (T 4) kk a → len (T 4) 12 z = acc + len (T 4) kk a → J p l e (Rm 3 0 0) s m args below meth c (vx_MQ below (Qn D base (fun v w' => v = some (.int (iI (if 0 ≤ z ∧ z < n then len (T 4) 12 z else 0))) ∧ MW base ca am (if 0 ≤ z ∧ z < n then 0 else 1) T w' ∧ Fr 1 w w')) (Xn D base (fun _ _ => False)) args s 0 0 (fun q => base ≤ q)) D base 4 0 0 14 [(0, .ref (am 0)), (2, .int (iI (acc))), (3, .int (iI (a)))] [] w9 := by
      intro kk
      induction kk using Nat.strongRecOn with
      | ind kk ih =>
        intro a acc ha hac hk hv
        refine j_iload_n X dX4_chain_14 (q := 15) rfl 2 rfl ?_
        refine j_iconst X (a := -1) dX4_chain_15 (q := 16) rfl ?_
        refine j_icmp_eq X (tgt := 32) dX4_chain_16 (by decide) (q := 19) rfl (by omega) (by omega) (fun c_16 => ?_) (fun c_16 => ?_)
        · skip
          refine j_iload_n X dX4_chain_32 (q := 33) rfl 1 rfl ?_
          exact j_iret X rfl dX4_chain_33 (⟨by rw [if_pos k1, hv, len_n (show a < 0 by omega), Int.add_zero], by rw [if_pos k1]; exact hM9, hF9⟩) (by decide) (by decide)
        · skip
          obtain ⟨t_15_0, t_15_1, t_15_2, t_15_3, t_15_4, t_15_5, t_15_6, t_15_7, t_15_8, t_15_9, t_15_10, t_15_11⟩ := hI.ins (i := a) (by omega) (by omega)
          obtain ⟨j9, rfl, hk9⟩ := ends_pos hk (by omega)
          refine j_iinc X dX4_chain_19 1 rfl (by decide) (q := 22) rfl (lv' := [(2, .int (iI (acc + 1))), (0, .ref (am 0)), (3, .int (iI (a)))]) (by first | rfl | simp [cat_rf, cat_i, cat_l, cat_r]) ?_
          refine j_aload_n X dX4_chain_22 (q := 23) rfl 1 rfl ?_
          refine j_get X (v := .ref (am 4)) fl_X4_7 hM9.obj rfl dX4_chain_23 (q := 26) rfl ?_
          refine j_iload_n X dX4_chain_26 (q := 27) rfl 2 rfl ?_
          refine jm_iald X hM9 4 (by decide) rfl (by omega) (by show _ < (12 : Int); omega) dX4_chain_27 (q := 28) rfl ?_
          refine j_istore_n X (i := 3) dX4_chain_28 rfl (by decide) (q := 29) rfl (lv' := [(3, .int (iI (T 4 a))), (2, .int (iI (acc + 1))), (0, .ref (am 0))]) (by first | rfl | simp [cat_rf, cat_i, cat_l, cat_r]) ?_
          refine j_goto X (tgt := 14) dX4_chain_29 (by decide) ?_
          exact j_lv (ih j9 (by omega) (T 4 a) (acc + 1) (by omega) (by omega) hk9 (by rw [hv, len_s (by omega)]; omega)) [2, 1, 0] rfl
    exact j_lv (loop 12 z 0 (by omega) (by decide) (hI.ends (by omega) k1.2) (by omega)) [2, 1, 0] rfl
  · skip
    have k1 : ¬ (0 ≤ z ∧ z < n) := tf_0 c_5
    rw [if_neg k1] at hM9
    refine j_iconst X (a := 0) dX4_chain_8 (q := 9) rfl ?_
    exact j_iret X rfl dX4_chain_9 (⟨by rw [if_neg k1], by rw [if_neg k1]; exact hM9, hF9⟩) (by decide) (by decide)
