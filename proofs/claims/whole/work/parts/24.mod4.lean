set_option maxRecDepth 100000 in
set_option maxHeartbeats 4000000 in
theorem c_X4_pass {l : Launch} (hlt : l.stackTraces = false) {D : va_G} {ca : Nat → ClassId} {base : Nat} {am : Nat → Nat} {th : Int} {n nm : Int} {T : St} {w : Wd} (hM : MW base ca am th T w) (hI : MI n nm T) (d : Int) (hd : -2147483648 ≤ d ∧ d ≤ 2147483647) : CT l D ca base yX4_pass cX4_pass 2 (some .int) 1 0 0 [.ref (am 0), .int (iI (d))] w (fun v w' => v = some (.int (iI (if psC d = 0 then T 1 0 + d else 0))) ∧ MW base ca am (psC d) (if psC d = 0 then up T 1 0 (T 1 0 + d) else T) w' ∧ Fr 1 w w') (fun _ _ => False) := by
  obtain ⟨hn, hnm, e2, e18, h1t, h3t⟩ := hI.top
  refine CT.mk hlt (by decide +kernel) (by first | exact Nat.le_of_ble_eq_true rfl | simp [lg_sl, cat_rf, cat_i, cat_l, cat_r]) ?_
  intro p e s m args below meth c X htab
  rw [show lv_args 0 [.ref (am 0), .int (iI (d))] = [(0, .ref (am 0)), (1, .int (iI (d)))] from by first | rfl | simp [lv_args, cat_rf, cat_i, cat_l, cat_r]]
  refine j_aload_n X dX4_pass_0 (q := 1) rfl 0 rfl ?_
  refine j_iload_n X dX4_pass_1 (q := 2) rfl 1 rfl ?_
  refine j_iconst X (a := 1) dX4_pass_2 (q := 3) rfl ?_
  refine j_icmp_lt X (tgt := 13) dX4_pass_3 (by decide) (q := 6) rfl (by omega) (by omega) (fun c_3 => ?_) (fun c_3 => ?_)
  · skip
    refine j_iconst X (a := 1) dX4_pass_13 (q := 14) rfl ?_
    refine j_goto X (tgt := 18) dX4_pass_14 (by decide) ?_
    refine j_callV X (As := [.int (iI (1))]) (st := []) hM.obj rfl (c_X4_holds hlt hM hI (1) (by decide)) sv_X4_73 (by decide) rfl (by first | decide | exact Nat.le_of_ble_eq_true rfl | simp [cat_rf, cat_i, cat_l, cat_r]) dX4_pass_18 (by decide) (fun _ _ h => h.elim) ?_
    rintro v9 w9 ⟨rfl, hM9, hF9⟩
    refine j_st (st := [.int (iI (tf (((1) : Int) = 0)))]) ?_
    have hx : psC d = 1 := by unfold psC; (repeat' split) <;> omega
    rw [← hx] at hM9
    have hb9 := tf_b (((1) : Int) = 0)
    refine j_if_ne X (tgt := 26) dX4_pass_21 (by decide) (q := 24) rfl (by omega) (fun c_21 => ?_) (fun c_21 => ?_)
    · skip
      exact absurd c_21 (by decide)
    · skip
      refine j_iconst X (a := 0) dX4_pass_24 (q := 25) rfl ?_
      exact j_iret X rfl dX4_pass_25 (⟨by rw [hx]; rfl, by rw [hx] at hM9 ⊢; exact hM9, hF9⟩) (by decide) (by decide)
  · skip
    refine j_iload_n X dX4_pass_6 (q := 7) rfl 1 rfl ?_
    refine j_sipush X (a := 999) (by decide +kernel) dX4_pass_7 (q := 10) rfl ?_
    refine j_icmp_le X (tgt := 17) dX4_pass_10 (by decide) (q := 13) rfl (by omega) (by omega) (fun c_10 => ?_) (fun c_10 => ?_)
    · skip
      refine j_iconst X (a := 0) dX4_pass_17 (q := 18) rfl ?_
      refine j_callV X (As := [.int (iI (0))]) (st := []) hM.obj rfl (c_X4_holds hlt hM hI (0) (by decide)) sv_X4_73 (by decide) rfl (by first | decide | exact Nat.le_of_ble_eq_true rfl | simp [cat_rf, cat_i, cat_l, cat_r]) dX4_pass_18 (by decide) (fun _ _ h => h.elim) ?_
      rintro v9 w9 ⟨rfl, hM9, hF9⟩
      refine j_st (st := [.int (iI (tf (((0) : Int) = 0)))]) ?_
      have hx : psC d = 0 := by unfold psC; (repeat' split) <;> omega
      rw [← hx] at hM9
      have hb9 := tf_b (((0) : Int) = 0)
      refine j_if_ne X (tgt := 26) dX4_pass_21 (by decide) (q := 24) rfl (by omega) (fun c_21 => ?_) (fun c_21 => ?_)
      · skip
        refine j_aload_n X dX4_pass_26 (q := 27) rfl 0 rfl ?_
        refine j_dup X (by first | rfl | exact cat_rf _) dX4_pass_27 (q := 28) rfl ?_
        refine j_get X (v := .int (iI (T 1 0))) fl_X4_80 hM9.obj rfl dX4_pass_28 (q := 31) rfl ?_
        refine j_iload_n X dX4_pass_31 (q := 32) rfl 1 rfl ?_
        refine j_iadd X dX4_pass_32 (q := 33) rfl ?_
        refine jm_put1 X fp_X4_80 hM9 dX4_pass_33 (q := 36) rfl (fun w_1 hMw_1 hFw_1 => ?_)
        refine j_aload_n X dX4_pass_36 (q := 37) rfl 0 rfl ?_
        refine j_get X (v := .int (iI (T 1 0 + d))) fl_X4_80 hMw_1.obj rfl dX4_pass_37 (q := 40) rfl ?_
        exact j_iret X rfl dX4_pass_40 (⟨by rw [hx, if_pos rfl], by rw [hx, if_pos rfl]; rw [hx] at hMw_1; exact hMw_1, hF9.tr hFw_1⟩) (by decide) (by decide)
      · skip
        exact absurd c_21 (by decide)
    · skip
      refine j_iconst X (a := 1) dX4_pass_13 (q := 14) rfl ?_
      refine j_goto X (tgt := 18) dX4_pass_14 (by decide) ?_
      refine j_callV X (As := [.int (iI (1))]) (st := []) hM.obj rfl (c_X4_holds hlt hM hI (1) (by decide)) sv_X4_73 (by decide) rfl (by first | decide | exact Nat.le_of_ble_eq_true rfl | simp [cat_rf, cat_i, cat_l, cat_r]) dX4_pass_18 (by decide) (fun _ _ h => h.elim) ?_
      rintro v9 w9 ⟨rfl, hM9, hF9⟩
      refine j_st (st := [.int (iI (tf (((1) : Int) = 0)))]) ?_
      have hx : psC d = 1 := by unfold psC; (repeat' split) <;> omega
      rw [← hx] at hM9
      have hb9 := tf_b (((1) : Int) = 0)
      refine j_if_ne X (tgt := 26) dX4_pass_21 (by decide) (q := 24) rfl (by omega) (fun c_21 => ?_) (fun c_21 => ?_)
      · skip
        exact absurd c_21 (by decide)
      · skip
        refine j_iconst X (a := 0) dX4_pass_24 (q := 25) rfl ?_
        exact j_iret X rfl dX4_pass_25 (⟨by rw [hx]; rfl, by rw [hx] at hM9 ⊢; exact hM9, hF9⟩) (by decide) (by decide)

set_option maxRecDepth 100000 in
set_option maxHeartbeats 4000000 in
theorem c_X4_refer {l : Launch} (hlt : l.stackTraces = false) {D : va_G} {ca : Nat → ClassId} {base : Nat} {am : Nat → Nat} {th : Int} {n nm : Int} {T : St} {w : Wd} (hM : MW base ca am th T w) (hI : MI n nm T) (z : Int) (hz : -2147483648 ≤ z ∧ z ≤ 2147483647) (r : Int) (hr : -2147483648 ≤ r ∧ r ≤ 2147483647) : CT l D ca base yX4_refer cX4_refer 5 (some .int) 1 0 0 [.ref (am 0), .int (iI (z)), .int (iI (r))] w (fun v w' => v = some (.int (iI (if rfC n T z r = 0 then T 4 z else 0))) ∧ MW base ca am (rfC n T z r) (if rfC n T z r = 0 then up T 4 z r else T) w' ∧ Fr 1 w w') (fun _ _ => False) := by
  obtain ⟨hn, hnm, e2, e18, h1t, h3t⟩ := hI.top
  refine CT.mk hlt (by decide +kernel) (by first | exact Nat.le_of_ble_eq_true rfl | simp [lg_sl, cat_rf, cat_i, cat_l, cat_r]) ?_
  intro p e s m args below meth c X htab
  rw [show lv_args 0 [.ref (am 0), .int (iI (z)), .int (iI (r))] = [(0, .ref (am 0)), (1, .int (iI (z))), (2, .int (iI (r)))] from by first | rfl | simp [lv_args, cat_rf, cat_i, cat_l, cat_r]]
  refine j_aload_n X dX4_refer_0 (q := 1) rfl 0 rfl ?_
  refine j_iload_n X dX4_refer_1 (q := 2) rfl 1 rfl ?_
  refine j_callV X (As := [.int (iI (z))]) (st := []) hM.obj rfl (c_X4_isInstrument hlt hM hI z hz) sv_X4_69 (by decide) rfl (by first | decide | exact Nat.le_of_ble_eq_true rfl | simp [cat_rf, cat_i, cat_l, cat_r]) dX4_refer_2 (by decide) (fun _ _ h => h.elim) ?_
  rintro v9 w9 ⟨rfl, rfl⟩
  refine j_st (st := [.int (iI (tf (0 ≤ z ∧ z < n)))]) ?_
  have hb := tf_b (0 ≤ z ∧ z < n)
  refine j_if_eq X (tgt := 25) dX4_refer_5 (by decide) (q := 8) rfl (by omega) (fun c_5 => ?_) (fun c_5 => ?_)
  · skip
    have k1 : ¬ (0 ≤ z ∧ z < n) := tf_0 c_5
    refine j_iconst X (a := 0) dX4_refer_25 (q := 26) rfl ?_
    refine j_istore_n X (i := 3) dX4_refer_26 rfl (by decide) (q := 27) rfl (lv' := [(3, .int (iI (0))), (0, .ref (am 0)), (1, .int (iI (z))), (2, .int (iI (r)))]) (by first | rfl | simp [cat_rf, cat_i, cat_l, cat_r]) ?_
    refine j_aload_n X dX4_refer_27 (q := 28) rfl 1 rfl ?_
    refine j_iload_n X dX4_refer_28 (q := 29) rfl 0 rfl ?_
    refine j_if_ne X (tgt := 36) dX4_refer_29 (by decide) (q := 32) rfl (by omega) (fun c_29 => ?_) (fun c_29 => ?_)
    · skip
      exact absurd c_29 (by decide)
    · skip
      refine j_iconst X (a := 1) dX4_refer_32 (q := 33) rfl ?_
      refine j_goto X (tgt := 55) dX4_refer_33 (by decide) ?_
      refine j_callV X (As := [.int (iI (1))]) (st := []) hM.obj rfl (c_X4_holds hlt hM hI (1) (by decide)) sv_X4_73 (by decide) rfl (by first | decide | exact Nat.le_of_ble_eq_true rfl | simp [cat_rf, cat_i, cat_l, cat_r]) dX4_refer_55 (by decide) (fun _ _ h => h.elim) ?_
      rintro v9 w9 ⟨rfl, hM9, hF9⟩
      refine j_st (st := [.int (iI (tf (((1) : Int) = 0)))]) ?_
      have hx : rfC n T z r = 1 := by unfold rfC; (repeat' split) <;> omega
      rw [← hx] at hM9
      have hb9 := tf_b (((1) : Int) = 0)
      refine j_if_ne X (tgt := 63) dX4_refer_58 (by decide) (q := 61) rfl (by omega) (fun c_58 => ?_) (fun c_58 => ?_)
      · skip
        exact absurd c_58 (by decide)
      · skip
        refine j_iconst X (a := 0) dX4_refer_61 (q := 62) rfl ?_
        exact j_iret X rfl dX4_refer_62 (⟨by rw [hx]; rfl, by rw [hx] at hM9 ⊢; exact hM9, hF9⟩) (by decide) (by decide)
  · skip
    have k1 : 0 ≤ z ∧ z < n := tf_1 c_5
    obtain ⟨t_2_0, t_2_1, t_2_2, t_2_3, t_2_4, t_2_5, t_2_6, t_2_7, t_2_8, t_2_9, t_2_10, t_2_11⟩ := hI.ins (i := z) k1.1 k1.2
    refine j_iload_n X dX4_refer_8 (q := 9) rfl 2 rfl ?_
    refine j_iconst X (a := -1) dX4_refer_9 (q := 10) rfl ?_
    refine j_icmp_eq X (tgt := 21) dX4_refer_10 (by decide) (q := 13) rfl (by omega) (by omega) (fun c_10 => ?_) (fun c_10 => ?_)
    · skip
      refine j_iconst X (a := 1) dX4_refer_21 (q := 22) rfl ?_
      refine j_goto X (tgt := 26) dX4_refer_22 (by decide) ?_
      refine j_istore_n X (i := 3) dX4_refer_26 rfl (by decide) (q := 27) rfl (lv' := [(3, .int (iI (1))), (0, .ref (am 0)), (1, .int (iI (z))), (2, .int (iI (r)))]) (by first | rfl | simp [cat_rf, cat_i, cat_l, cat_r]) ?_
      refine j_aload_n X dX4_refer_27 (q := 28) rfl 1 rfl ?_
      refine j_iload_n X dX4_refer_28 (q := 29) rfl 0 rfl ?_
      refine j_if_ne X (tgt := 36) dX4_refer_29 (by decide) (q := 32) rfl (by omega) (fun c_29 => ?_) (fun c_29 => ?_)
      · skip
        refine j_iload_n X dX4_refer_36 (q := 37) rfl 3 rfl ?_
        refine j_iconst X (a := -1) dX4_refer_37 (q := 38) rfl ?_
        refine j_icmp_eq X (tgt := 54) dX4_refer_38 (by decide) (q := 41) rfl (by omega) (by omega) (fun c_38 => ?_) (fun c_38 => ?_)
        · skip
          refine j_iconst X (a := 0) dX4_refer_54 (q := 55) rfl ?_
          refine j_callV X (As := [.int (iI (0))]) (st := []) hM.obj rfl (c_X4_holds hlt hM hI (0) (by decide)) sv_X4_73 (by decide) rfl (by first | decide | exact Nat.le_of_ble_eq_true rfl | simp [cat_rf, cat_i, cat_l, cat_r]) dX4_refer_55 (by decide) (fun _ _ h => h.elim) ?_
          rintro v9 w9 ⟨rfl, hM9, hF9⟩
          refine j_st (st := [.int (iI (tf (((0) : Int) = 0)))]) ?_
          have hx : rfC n T z r = 0 := by unfold rfC; (repeat' split) <;> omega
          rw [← hx] at hM9
          have hb9 := tf_b (((0) : Int) = 0)
          refine j_if_ne X (tgt := 63) dX4_refer_58 (by decide) (q := 61) rfl (by omega) (fun c_58 => ?_) (fun c_58 => ?_)
          · skip
            refine j_aload_n X dX4_refer_63 (q := 64) rfl 1 rfl ?_
            refine j_get X (v := .ref (am 4)) fl_X4_7 hM9.obj rfl dX4_refer_64 (q := 67) rfl ?_
            refine j_iload_n X dX4_refer_67 (q := 68) rfl 2 rfl ?_
            refine jm_iald X hM9 4 (by decide) rfl (by omega) (by show _ < (12 : Int); omega) dX4_refer_68 (q := 69) rfl ?_
            refine j_istore X (i := 4) dX4_refer_69 (by decide) (q := 71) rfl (lv' := [(4, .int (iI (T 4 z))), (3, .int (iI (1))), (0, .ref (am 0)), (1, .int (iI (z))), (2, .int (iI (r)))]) (by first | rfl | simp [cat_rf, cat_i, cat_l, cat_r]) ?_
            refine j_aload_n X dX4_refer_71 (q := 72) rfl 2 rfl ?_
            refine j_get X (v := .ref (am 4)) fl_X4_7 hM9.obj rfl dX4_refer_72 (q := 75) rfl ?_
            refine j_iload_n X dX4_refer_75 (q := 76) rfl 3 rfl ?_
            refine j_iload_n X dX4_refer_76 (q := 77) rfl 4 rfl ?_
            refine jm_iast X hM9 4 (by decide) rfl (by omega) (by show _ < (12 : Int); omega) dX4_refer_77 (q := 78) rfl (fun w_3 hMw_3 hFw_3 => ?_)
            refine j_iload X dX4_refer_78 (q := 80) rfl 0 rfl ?_
            exact j_iret X rfl dX4_refer_80 (⟨by rw [hx, if_pos rfl], by rw [hx, if_pos rfl]; rw [hx] at hMw_3; exact hMw_3, hF9.tr hFw_3⟩) (by decide) (by decide)
          · skip
            exact absurd c_58 (by decide)
        · skip
          refine j_aload_n X dX4_refer_41 (q := 42) rfl 1 rfl ?_
          refine j_iload_n X dX4_refer_42 (q := 43) rfl 2 rfl ?_
          refine j_iload_n X dX4_refer_43 (q := 44) rfl 3 rfl ?_
          refine j_callV X (As := [.int (iI (z)), .int (iI (r))]) (st := [.ref (am 0)]) hM.obj rfl (c_X4_isInChain hlt hM hI z r k1 (by omega)) sv_X4_76 (by decide) rfl (by first | decide | exact Nat.le_of_ble_eq_true rfl | simp [cat_rf, cat_i, cat_l, cat_r]) dX4_refer_44 (by decide) (fun _ _ h => h.elim) ?_
          rintro v9 w9 ⟨rfl, rfl⟩
          refine j_st (st := [.int (iI (inCh (T 4) 12 r z)), .ref (am 0)]) ?_
          have hbc := inCh_b (T 4) 12 r z
          refine j_if_eq X (tgt := 54) dX4_refer_47 (by decide) (q := 50) rfl (by omega) (fun c_47 => ?_) (fun c_47 => ?_)
          · skip
            refine j_iconst X (a := 0) dX4_refer_54 (q := 55) rfl ?_
            refine j_callV X (As := [.int (iI (0))]) (st := []) hM.obj rfl (c_X4_holds hlt hM hI (0) (by decide)) sv_X4_73 (by decide) rfl (by first | decide | exact Nat.le_of_ble_eq_true rfl | simp [cat_rf, cat_i, cat_l, cat_r]) dX4_refer_55 (by decide) (fun _ _ h => h.elim) ?_
            rintro v9 w9 ⟨rfl, hM9, hF9⟩
            refine j_st (st := [.int (iI (tf (((0) : Int) = 0)))]) ?_
            have hx : rfC n T z r = 0 := by unfold rfC; (repeat' split) <;> omega
            rw [← hx] at hM9
            have hb9 := tf_b (((0) : Int) = 0)
            refine j_if_ne X (tgt := 63) dX4_refer_58 (by decide) (q := 61) rfl (by omega) (fun c_58 => ?_) (fun c_58 => ?_)
            · skip
              refine j_aload_n X dX4_refer_63 (q := 64) rfl 1 rfl ?_
              refine j_get X (v := .ref (am 4)) fl_X4_7 hM9.obj rfl dX4_refer_64 (q := 67) rfl ?_
              refine j_iload_n X dX4_refer_67 (q := 68) rfl 2 rfl ?_
              refine jm_iald X hM9 4 (by decide) rfl (by omega) (by show _ < (12 : Int); omega) dX4_refer_68 (q := 69) rfl ?_
              refine j_istore X (i := 4) dX4_refer_69 (by decide) (q := 71) rfl (lv' := [(4, .int (iI (T 4 z))), (3, .int (iI (1))), (0, .ref (am 0)), (1, .int (iI (z))), (2, .int (iI (r)))]) (by first | rfl | simp [cat_rf, cat_i, cat_l, cat_r]) ?_
              refine j_aload_n X dX4_refer_71 (q := 72) rfl 2 rfl ?_
              refine j_get X (v := .ref (am 4)) fl_X4_7 hM9.obj rfl dX4_refer_72 (q := 75) rfl ?_
              refine j_iload_n X dX4_refer_75 (q := 76) rfl 3 rfl ?_
              refine j_iload_n X dX4_refer_76 (q := 77) rfl 4 rfl ?_
              refine jm_iast X hM9 4 (by decide) rfl (by omega) (by show _ < (12 : Int); omega) dX4_refer_77 (q := 78) rfl (fun w_4 hMw_4 hFw_4 => ?_)
              refine j_iload X dX4_refer_78 (q := 80) rfl 0 rfl ?_
              exact j_iret X rfl dX4_refer_80 (⟨by rw [hx, if_pos rfl], by rw [hx, if_pos rfl]; rw [hx] at hMw_4; exact hMw_4, hF9.tr hFw_4⟩) (by decide) (by decide)
            · skip
              exact absurd c_58 (by decide)
          · skip
            refine j_iconst X (a := 2) dX4_refer_50 (q := 51) rfl ?_
            refine j_goto X (tgt := 55) dX4_refer_51 (by decide) ?_
            refine j_callV X (As := [.int (iI (2))]) (st := []) hM.obj rfl (c_X4_holds hlt hM hI (2) (by decide)) sv_X4_73 (by decide) rfl (by first | decide | exact Nat.le_of_ble_eq_true rfl | simp [cat_rf, cat_i, cat_l, cat_r]) dX4_refer_55 (by decide) (fun _ _ h => h.elim) ?_
            rintro v9 w9 ⟨rfl, hM9, hF9⟩
            refine j_st (st := [.int (iI (tf (((2) : Int) = 0)))]) ?_
            have hx : rfC n T z r = 2 := by unfold rfC; (repeat' split) <;> omega
            rw [← hx] at hM9
            have hb9 := tf_b (((2) : Int) = 0)
            refine j_if_ne X (tgt := 63) dX4_refer_58 (by decide) (q := 61) rfl (by omega) (fun c_58 => ?_) (fun c_58 => ?_)
            · skip
              exact absurd c_58 (by decide)
            · skip
              refine j_iconst X (a := 0) dX4_refer_61 (q := 62) rfl ?_
              exact j_iret X rfl dX4_refer_62 (⟨by rw [hx]; rfl, by rw [hx] at hM9 ⊢; exact hM9, hF9⟩) (by decide) (by decide)
      · skip
        exact absurd c_29 (by decide)
    · skip
      refine j_aload_n X dX4_refer_13 (q := 14) rfl 0 rfl ?_
      refine j_iload_n X dX4_refer_14 (q := 15) rfl 2 rfl ?_
      refine j_callV X (As := [.int (iI (r))]) (st := []) hM.obj rfl (c_X4_isInstrument hlt hM hI r hr) sv_X4_69 (by decide) rfl (by first | decide | exact Nat.le_of_ble_eq_true rfl | simp [cat_rf, cat_i, cat_l, cat_r]) dX4_refer_15 (by decide) (fun _ _ h => h.elim) ?_
      rintro v9 w9 ⟨rfl, rfl⟩
      refine j_st (st := [.int (iI (tf (0 ≤ r ∧ r < n)))]) ?_
      have hbr := tf_b (0 ≤ r ∧ r < n)
      refine j_if_eq X (tgt := 25) dX4_refer_18 (by decide) (q := 21) rfl (by omega) (fun c_18 => ?_) (fun c_18 => ?_)
      · skip
        have k2 : ¬ (0 ≤ r ∧ r < n) := tf_0 c_18
        refine j_iconst X (a := 0) dX4_refer_25 (q := 26) rfl ?_
        refine j_istore_n X (i := 3) dX4_refer_26 rfl (by decide) (q := 27) rfl (lv' := [(3, .int (iI (0))), (0, .ref (am 0)), (1, .int (iI (z))), (2, .int (iI (r)))]) (by first | rfl | simp [cat_rf, cat_i, cat_l, cat_r]) ?_
        refine j_aload_n X dX4_refer_27 (q := 28) rfl 1 rfl ?_
        refine j_iload_n X dX4_refer_28 (q := 29) rfl 0 rfl ?_
        refine j_if_ne X (tgt := 36) dX4_refer_29 (by decide) (q := 32) rfl (by omega) (fun c_29 => ?_) (fun c_29 => ?_)
        · skip
          exact absurd c_29 (by decide)
        · skip
          refine j_iconst X (a := 1) dX4_refer_32 (q := 33) rfl ?_
          refine j_goto X (tgt := 55) dX4_refer_33 (by decide) ?_
          refine j_callV X (As := [.int (iI (1))]) (st := []) hM.obj rfl (c_X4_holds hlt hM hI (1) (by decide)) sv_X4_73 (by decide) rfl (by first | decide | exact Nat.le_of_ble_eq_true rfl | simp [cat_rf, cat_i, cat_l, cat_r]) dX4_refer_55 (by decide) (fun _ _ h => h.elim) ?_
          rintro v9 w9 ⟨rfl, hM9, hF9⟩
          refine j_st (st := [.int (iI (tf (((1) : Int) = 0)))]) ?_
          have hx : rfC n T z r = 1 := by unfold rfC; (repeat' split) <;> omega
          rw [← hx] at hM9
          have hb9 := tf_b (((1) : Int) = 0)
          refine j_if_ne X (tgt := 63) dX4_refer_58 (by decide) (q := 61) rfl (by omega) (fun c_58 => ?_) (fun c_58 => ?_)
          · skip
            exact absurd c_58 (by decide)
          · skip
            refine j_iconst X (a := 0) dX4_refer_61 (q := 62) rfl ?_
            exact j_iret X rfl dX4_refer_62 (⟨by rw [hx]; rfl, by rw [hx] at hM9 ⊢; exact hM9, hF9⟩) (by decide) (by decide)
      · skip
        have k2 : 0 ≤ r ∧ r < n := tf_1 c_18
        refine j_iconst X (a := 1) dX4_refer_21 (q := 22) rfl ?_
        refine j_goto X (tgt := 26) dX4_refer_22 (by decide) ?_
        refine j_istore_n X (i := 3) dX4_refer_26 rfl (by decide) (q := 27) rfl (lv' := [(3, .int (iI (1))), (0, .ref (am 0)), (1, .int (iI (z))), (2, .int (iI (r)))]) (by first | rfl | simp [cat_rf, cat_i, cat_l, cat_r]) ?_
        refine j_aload_n X dX4_refer_27 (q := 28) rfl 1 rfl ?_
        refine j_iload_n X dX4_refer_28 (q := 29) rfl 0 rfl ?_
        refine j_if_ne X (tgt := 36) dX4_refer_29 (by decide) (q := 32) rfl (by omega) (fun c_29 => ?_) (fun c_29 => ?_)
        · skip
          refine j_iload_n X dX4_refer_36 (q := 37) rfl 3 rfl ?_
          refine j_iconst X (a := -1) dX4_refer_37 (q := 38) rfl ?_
          refine j_icmp_eq X (tgt := 54) dX4_refer_38 (by decide) (q := 41) rfl (by omega) (by omega) (fun c_38 => ?_) (fun c_38 => ?_)
          · skip
            refine j_iconst X (a := 0) dX4_refer_54 (q := 55) rfl ?_
            refine j_callV X (As := [.int (iI (0))]) (st := []) hM.obj rfl (c_X4_holds hlt hM hI (0) (by decide)) sv_X4_73 (by decide) rfl (by first | decide | exact Nat.le_of_ble_eq_true rfl | simp [cat_rf, cat_i, cat_l, cat_r]) dX4_refer_55 (by decide) (fun _ _ h => h.elim) ?_
            rintro v9 w9 ⟨rfl, hM9, hF9⟩
            refine j_st (st := [.int (iI (tf (((0) : Int) = 0)))]) ?_
            have hx : rfC n T z r = 0 := by unfold rfC; (repeat' split) <;> omega
            rw [← hx] at hM9
            have hb9 := tf_b (((0) : Int) = 0)
            refine j_if_ne X (tgt := 63) dX4_refer_58 (by decide) (q := 61) rfl (by omega) (fun c_58 => ?_) (fun c_58 => ?_)
            · skip
              refine j_aload_n X dX4_refer_63 (q := 64) rfl 1 rfl ?_
              refine j_get X (v := .ref (am 4)) fl_X4_7 hM9.obj rfl dX4_refer_64 (q := 67) rfl ?_
              refine j_iload_n X dX4_refer_67 (q := 68) rfl 2 rfl ?_
              refine jm_iald X hM9 4 (by decide) rfl (by omega) (by show _ < (12 : Int); omega) dX4_refer_68 (q := 69) rfl ?_
              refine j_istore X (i := 4) dX4_refer_69 (by decide) (q := 71) rfl (lv' := [(4, .int (iI (T 4 z))), (3, .int (iI (1))), (0, .ref (am 0)), (1, .int (iI (z))), (2, .int (iI (r)))]) (by first | rfl | simp [cat_rf, cat_i, cat_l, cat_r]) ?_
              refine j_aload_n X dX4_refer_71 (q := 72) rfl 2 rfl ?_
              refine j_get X (v := .ref (am 4)) fl_X4_7 hM9.obj rfl dX4_refer_72 (q := 75) rfl ?_
              refine j_iload_n X dX4_refer_75 (q := 76) rfl 3 rfl ?_
              refine j_iload_n X dX4_refer_76 (q := 77) rfl 4 rfl ?_
              refine jm_iast X hM9 4 (by decide) rfl (by omega) (by show _ < (12 : Int); omega) dX4_refer_77 (q := 78) rfl (fun w_5 hMw_5 hFw_5 => ?_)
              refine j_iload X dX4_refer_78 (q := 80) rfl 0 rfl ?_
              exact j_iret X rfl dX4_refer_80 (⟨by rw [hx, if_pos rfl], by rw [hx, if_pos rfl]; rw [hx] at hMw_5; exact hMw_5, hF9.tr hFw_5⟩) (by decide) (by decide)
            · skip
              exact absurd c_58 (by decide)
          · skip
            refine j_aload_n X dX4_refer_41 (q := 42) rfl 1 rfl ?_
            refine j_iload_n X dX4_refer_42 (q := 43) rfl 2 rfl ?_
            refine j_iload_n X dX4_refer_43 (q := 44) rfl 3 rfl ?_
            refine j_callV X (As := [.int (iI (z)), .int (iI (r))]) (st := [.ref (am 0)]) hM.obj rfl (c_X4_isInChain hlt hM hI z r k1 (by omega)) sv_X4_76 (by decide) rfl (by first | decide | exact Nat.le_of_ble_eq_true rfl | simp [cat_rf, cat_i, cat_l, cat_r]) dX4_refer_44 (by decide) (fun _ _ h => h.elim) ?_
            rintro v9 w9 ⟨rfl, rfl⟩
            refine j_st (st := [.int (iI (inCh (T 4) 12 r z)), .ref (am 0)]) ?_
            have hbc := inCh_b (T 4) 12 r z
            refine j_if_eq X (tgt := 54) dX4_refer_47 (by decide) (q := 50) rfl (by omega) (fun c_47 => ?_) (fun c_47 => ?_)
            · skip
              refine j_iconst X (a := 0) dX4_refer_54 (q := 55) rfl ?_
              refine j_callV X (As := [.int (iI (0))]) (st := []) hM.obj rfl (c_X4_holds hlt hM hI (0) (by decide)) sv_X4_73 (by decide) rfl (by first | decide | exact Nat.le_of_ble_eq_true rfl | simp [cat_rf, cat_i, cat_l, cat_r]) dX4_refer_55 (by decide) (fun _ _ h => h.elim) ?_
              rintro v9 w9 ⟨rfl, hM9, hF9⟩
              refine j_st (st := [.int (iI (tf (((0) : Int) = 0)))]) ?_
              have hx : rfC n T z r = 0 := by unfold rfC; (repeat' split) <;> omega
              rw [← hx] at hM9
              have hb9 := tf_b (((0) : Int) = 0)
              refine j_if_ne X (tgt := 63) dX4_refer_58 (by decide) (q := 61) rfl (by omega) (fun c_58 => ?_) (fun c_58 => ?_)
              · skip
                refine j_aload_n X dX4_refer_63 (q := 64) rfl 1 rfl ?_
                refine j_get X (v := .ref (am 4)) fl_X4_7 hM9.obj rfl dX4_refer_64 (q := 67) rfl ?_
                refine j_iload_n X dX4_refer_67 (q := 68) rfl 2 rfl ?_
                refine jm_iald X hM9 4 (by decide) rfl (by omega) (by show _ < (12 : Int); omega) dX4_refer_68 (q := 69) rfl ?_
                refine j_istore X (i := 4) dX4_refer_69 (by decide) (q := 71) rfl (lv' := [(4, .int (iI (T 4 z))), (3, .int (iI (1))), (0, .ref (am 0)), (1, .int (iI (z))), (2, .int (iI (r)))]) (by first | rfl | simp [cat_rf, cat_i, cat_l, cat_r]) ?_
                refine j_aload_n X dX4_refer_71 (q := 72) rfl 2 rfl ?_
                refine j_get X (v := .ref (am 4)) fl_X4_7 hM9.obj rfl dX4_refer_72 (q := 75) rfl ?_
                refine j_iload_n X dX4_refer_75 (q := 76) rfl 3 rfl ?_
                refine j_iload_n X dX4_refer_76 (q := 77) rfl 4 rfl ?_
                refine jm_iast X hM9 4 (by decide) rfl (by omega) (by show _ < (12 : Int); omega) dX4_refer_77 (q := 78) rfl (fun w_6 hMw_6 hFw_6 => ?_)
                refine j_iload X dX4_refer_78 (q := 80) rfl 0 rfl ?_
                exact j_iret X rfl dX4_refer_80 (⟨by rw [hx, if_pos rfl], by rw [hx, if_pos rfl]; rw [hx] at hMw_6; exact hMw_6, hF9.tr hFw_6⟩) (by decide) (by decide)
              · skip
                exact absurd c_58 (by decide)
            · skip
              refine j_iconst X (a := 2) dX4_refer_50 (q := 51) rfl ?_
              refine j_goto X (tgt := 55) dX4_refer_51 (by decide) ?_
              refine j_callV X (As := [.int (iI (2))]) (st := []) hM.obj rfl (c_X4_holds hlt hM hI (2) (by decide)) sv_X4_73 (by decide) rfl (by first | decide | exact Nat.le_of_ble_eq_true rfl | simp [cat_rf, cat_i, cat_l, cat_r]) dX4_refer_55 (by decide) (fun _ _ h => h.elim) ?_
              rintro v9 w9 ⟨rfl, hM9, hF9⟩
              refine j_st (st := [.int (iI (tf (((2) : Int) = 0)))]) ?_
              have hx : rfC n T z r = 2 := by unfold rfC; (repeat' split) <;> omega
              rw [← hx] at hM9
              have hb9 := tf_b (((2) : Int) = 0)
              refine j_if_ne X (tgt := 63) dX4_refer_58 (by decide) (q := 61) rfl (by omega) (fun c_58 => ?_) (fun c_58 => ?_)
              · skip
                exact absurd c_58 (by decide)
              · skip
                refine j_iconst X (a := 0) dX4_refer_61 (q := 62) rfl ?_
                exact j_iret X rfl dX4_refer_62 (⟨by rw [hx]; rfl, by rw [hx] at hM9 ⊢; exact hM9, hF9⟩) (by decide) (by decide)
        · skip
          exact absurd c_29 (by decide)

set_option maxRecDepth 100000 in
set_option maxHeartbeats 4000000 in
theorem c_X4_tell {l : Launch} (hlt : l.stackTraces = false) {D : va_G} {ca : Nat → ClassId} {base : Nat} {am : Nat → Nat} {th : Int} {n nm : Int} {T : St} {w : Wd} (hM : MW base ca am th T w) (hI : MI n nm T) (r t u v : Int) (hr : -2147483648 ≤ r ∧ r ≤ 2147483647) (ht : -2147483648 ≤ t ∧ t ≤ 2147483647) (hu : -2147483648 ≤ u ∧ u ≤ 2147483647) (hv : -2147483648 ≤ v ∧ v ≤ 2147483647) : CT l D ca base yX4_tell cX4_tell 7 (some .int) 1 0 0 [.ref (am 0), .int (iI (r)), .int (iI (t)), .int (iI (u)), .int (iI (v))] w (fun x w' => x = some (.int (iI (if tlC n r t u v = 0 then n else 0))) ∧ MW base ca am (tlC n r t u v) (if tlC n r t u v = 0 then tlM T n r t u v else T) w' ∧ Fr 1 w w') (fun _ _ => False) := by
  obtain ⟨hn, hnm, e2, e18, h1t, h3t⟩ := hI.top
  refine CT.mk hlt (by decide +kernel) (by first | exact Nat.le_of_ble_eq_true rfl | simp [lg_sl, cat_rf, cat_i, cat_l, cat_r]) ?_
  intro p e s m args below meth c X htab
  rw [show lv_args 0 [.ref (am 0), .int (iI (r)), .int (iI (t)), .int (iI (u)), .int (iI (v))] = [(0, .ref (am 0)), (1, .int (iI (r))), (2, .int (iI (t))), (3, .int (iI (u))), (4, .int (iI (v)))] from by first | rfl | simp [lv_args, cat_rf, cat_i, cat_l, cat_r]]
  refine j_iload_n X dX4_tell_0 (q := 1) rfl 1 rfl ?_
  refine j_iconst X (a := -1) dX4_tell_1 (q := 2) rfl ?_
  refine j_icmp_eq X (tgt := 13) dX4_tell_2 (by decide) (q := 5) rfl (by omega) (by omega) (fun c_2 => ?_) (fun c_2 => ?_)
  · skip
    refine j_iconst X (a := 1) dX4_tell_13 (q := 14) rfl ?_
    refine j_goto X (tgt := 18) dX4_tell_14 (by decide) ?_
    refine j_istore X (i := 5) dX4_tell_18 (by decide) (q := 20) rfl (lv' := [(5, .int (iI (1))), (0, .ref (am 0)), (1, .int (iI (r))), (2, .int (iI (t))), (3, .int (iI (u))), (4, .int (iI (v)))]) (by first | rfl | simp [cat_rf, cat_i, cat_l, cat_r]) ?_
    refine j_iload_n X dX4_tell_20 (q := 21) rfl 3 rfl ?_
    refine j_iconst X (a := 1) dX4_tell_21 (q := 22) rfl ?_
    refine j_icmp_lt X (tgt := 61) dX4_tell_22 (by decide) (q := 25) rfl (by omega) (by omega) (fun c_22 => ?_) (fun c_22 => ?_)
    · skip
      refine j_iconst X (a := 0) dX4_tell_61 (q := 62) rfl ?_
      refine j_istore X (i := 6) dX4_tell_62 (by decide) (q := 64) rfl (lv' := [(6, .int (iI (0))), (5, .int (iI (1))), (0, .ref (am 0)), (1, .int (iI (r))), (2, .int (iI (t))), (3, .int (iI (u))), (4, .int (iI (v)))]) (by first | rfl | simp [cat_rf, cat_i, cat_l, cat_r]) ?_
      refine j_aload_n X dX4_tell_64 (q := 65) rfl 2 rfl ?_
      refine j_iload X dX4_tell_65 (q := 67) rfl 1 rfl ?_
      refine j_if_ne X (tgt := 74) dX4_tell_67 (by decide) (q := 70) rfl (by omega) (fun c_67 => ?_) (fun c_67 => ?_)
      · skip
        refine j_iload X dX4_tell_74 (q := 76) rfl 0 rfl ?_
        refine j_if_ne X (tgt := 83) dX4_tell_76 (by decide) (q := 79) rfl (by omega) (fun c_76 => ?_) (fun c_76 => ?_)
        · skip
          exact absurd c_76 (by decide)
        · skip
          refine j_iconst X (a := 2) dX4_tell_79 (q := 80) rfl ?_
          refine j_goto X (tgt := 97) dX4_tell_80 (by decide) ?_
          refine j_callV X (As := [.int (iI (2))]) (st := []) hM.obj rfl (c_X4_holds hlt hM hI (2) (by decide)) sv_X4_73 (by decide) rfl (by first | decide | exact Nat.le_of_ble_eq_true rfl | simp [cat_rf, cat_i, cat_l, cat_r]) dX4_tell_97 (by decide) (fun _ _ h => h.elim) ?_
          rintro v9 w9 ⟨rfl, hM9, hF9⟩
          refine j_st (st := [.int (iI (tf (((2) : Int) = 0)))]) ?_
          have hx : tlC n r t u v = 2 := by unfold tlC; (repeat' split) <;> omega
          rw [← hx] at hM9
          have hb9 := tf_b (((2) : Int) = 0)
          refine j_if_ne X (tgt := 105) dX4_tell_100 (by decide) (q := 103) rfl (by omega) (fun c_100 => ?_) (fun c_100 => ?_)
          · skip
            exact absurd c_100 (by decide)
          · skip
            refine j_iconst X (a := 0) dX4_tell_103 (q := 104) rfl ?_
            exact j_iret X rfl dX4_tell_104 (⟨by rw [hx]; rfl, by rw [hx] at hM9 ⊢; exact hM9, hF9⟩) (by decide) (by decide)
      · skip
        exact absurd c_67 (by decide)
    · skip
      refine j_iload_n X dX4_tell_25 (q := 26) rfl 3 rfl ?_
      refine j_sipush X (a := 9999) (by decide +kernel) dX4_tell_26 (q := 29) rfl ?_
      refine j_icmp_gt X (tgt := 61) dX4_tell_29 (by decide) (q := 32) rfl (by omega) (by omega) (fun c_29 => ?_) (fun c_29 => ?_)
      · skip
        refine j_iconst X (a := 0) dX4_tell_61 (q := 62) rfl ?_
        refine j_istore X (i := 6) dX4_tell_62 (by decide) (q := 64) rfl (lv' := [(6, .int (iI (0))), (5, .int (iI (1))), (0, .ref (am 0)), (1, .int (iI (r))), (2, .int (iI (t))), (3, .int (iI (u))), (4, .int (iI (v)))]) (by first | rfl | simp [cat_rf, cat_i, cat_l, cat_r]) ?_
        refine j_aload_n X dX4_tell_64 (q := 65) rfl 2 rfl ?_
        refine j_iload X dX4_tell_65 (q := 67) rfl 1 rfl ?_
        refine j_if_ne X (tgt := 74) dX4_tell_67 (by decide) (q := 70) rfl (by omega) (fun c_67 => ?_) (fun c_67 => ?_)
        · skip
          refine j_iload X dX4_tell_74 (q := 76) rfl 0 rfl ?_
          refine j_if_ne X (tgt := 83) dX4_tell_76 (by decide) (q := 79) rfl (by omega) (fun c_76 => ?_) (fun c_76 => ?_)
          · skip
            exact absurd c_76 (by decide)
          · skip
            refine j_iconst X (a := 2) dX4_tell_79 (q := 80) rfl ?_
            refine j_goto X (tgt := 97) dX4_tell_80 (by decide) ?_
            refine j_callV X (As := [.int (iI (2))]) (st := []) hM.obj rfl (c_X4_holds hlt hM hI (2) (by decide)) sv_X4_73 (by decide) rfl (by first | decide | exact Nat.le_of_ble_eq_true rfl | simp [cat_rf, cat_i, cat_l, cat_r]) dX4_tell_97 (by decide) (fun _ _ h => h.elim) ?_
            rintro v9 w9 ⟨rfl, hM9, hF9⟩
            refine j_st (st := [.int (iI (tf (((2) : Int) = 0)))]) ?_
            have hx : tlC n r t u v = 2 := by unfold tlC; (repeat' split) <;> omega
            rw [← hx] at hM9
            have hb9 := tf_b (((2) : Int) = 0)
            refine j_if_ne X (tgt := 105) dX4_tell_100 (by decide) (q := 103) rfl (by omega) (fun c_100 => ?_) (fun c_100 => ?_)
            · skip
              exact absurd c_100 (by decide)
            · skip
              refine j_iconst X (a := 0) dX4_tell_103 (q := 104) rfl ?_
              exact j_iret X rfl dX4_tell_104 (⟨by rw [hx]; rfl, by rw [hx] at hM9 ⊢; exact hM9, hF9⟩) (by decide) (by decide)
        · skip
          exact absurd c_67 (by decide)
      · skip
        refine j_iload_n X dX4_tell_32 (q := 33) rfl 4 rfl ?_
        refine j_if_lt X (tgt := 61) dX4_tell_33 (by decide) (q := 36) rfl (by omega) (fun c_33 => ?_) (fun c_33 => ?_)
        · skip
          refine j_iconst X (a := 0) dX4_tell_61 (q := 62) rfl ?_
          refine j_istore X (i := 6) dX4_tell_62 (by decide) (q := 64) rfl (lv' := [(6, .int (iI (0))), (5, .int (iI (1))), (0, .ref (am 0)), (1, .int (iI (r))), (2, .int (iI (t))), (3, .int (iI (u))), (4, .int (iI (v)))]) (by first | rfl | simp [cat_rf, cat_i, cat_l, cat_r]) ?_
          refine j_aload_n X dX4_tell_64 (q := 65) rfl 2 rfl ?_
          refine j_iload X dX4_tell_65 (q := 67) rfl 1 rfl ?_
          refine j_if_ne X (tgt := 74) dX4_tell_67 (by decide) (q := 70) rfl (by omega) (fun c_67 => ?_) (fun c_67 => ?_)
          · skip
            refine j_iload X dX4_tell_74 (q := 76) rfl 0 rfl ?_
            refine j_if_ne X (tgt := 83) dX4_tell_76 (by decide) (q := 79) rfl (by omega) (fun c_76 => ?_) (fun c_76 => ?_)
            · skip
              exact absurd c_76 (by decide)
            · skip
              refine j_iconst X (a := 2) dX4_tell_79 (q := 80) rfl ?_
              refine j_goto X (tgt := 97) dX4_tell_80 (by decide) ?_
              refine j_callV X (As := [.int (iI (2))]) (st := []) hM.obj rfl (c_X4_holds hlt hM hI (2) (by decide)) sv_X4_73 (by decide) rfl (by first | decide | exact Nat.le_of_ble_eq_true rfl | simp [cat_rf, cat_i, cat_l, cat_r]) dX4_tell_97 (by decide) (fun _ _ h => h.elim) ?_
              rintro v9 w9 ⟨rfl, hM9, hF9⟩
              refine j_st (st := [.int (iI (tf (((2) : Int) = 0)))]) ?_
              have hx : tlC n r t u v = 2 := by unfold tlC; (repeat' split) <;> omega
              rw [← hx] at hM9
              have hb9 := tf_b (((2) : Int) = 0)
              refine j_if_ne X (tgt := 105) dX4_tell_100 (by decide) (q := 103) rfl (by omega) (fun c_100 => ?_) (fun c_100 => ?_)
              · skip
                exact absurd c_100 (by decide)
              · skip
                refine j_iconst X (a := 0) dX4_tell_103 (q := 104) rfl ?_
                exact j_iret X rfl dX4_tell_104 (⟨by rw [hx]; rfl, by rw [hx] at hM9 ⊢; exact hM9, hF9⟩) (by decide) (by decide)
          · skip
            exact absurd c_67 (by decide)
        · skip
          refine j_iload_n X dX4_tell_36 (q := 37) rfl 4 rfl ?_
          refine j_sipush X (a := 999) (by decide +kernel) dX4_tell_37 (q := 40) rfl ?_
          refine j_icmp_gt X (tgt := 61) dX4_tell_40 (by decide) (q := 43) rfl (by omega) (by omega) (fun c_40 => ?_) (fun c_40 => ?_)
          · skip
            refine j_iconst X (a := 0) dX4_tell_61 (q := 62) rfl ?_
            refine j_istore X (i := 6) dX4_tell_62 (by decide) (q := 64) rfl (lv' := [(6, .int (iI (0))), (5, .int (iI (1))), (0, .ref (am 0)), (1, .int (iI (r))), (2, .int (iI (t))), (3, .int (iI (u))), (4, .int (iI (v)))]) (by first | rfl | simp [cat_rf, cat_i, cat_l, cat_r]) ?_
            refine j_aload_n X dX4_tell_64 (q := 65) rfl 2 rfl ?_
            refine j_iload X dX4_tell_65 (q := 67) rfl 1 rfl ?_
            refine j_if_ne X (tgt := 74) dX4_tell_67 (by decide) (q := 70) rfl (by omega) (fun c_67 => ?_) (fun c_67 => ?_)
            · skip
              refine j_iload X dX4_tell_74 (q := 76) rfl 0 rfl ?_
              refine j_if_ne X (tgt := 83) dX4_tell_76 (by decide) (q := 79) rfl (by omega) (fun c_76 => ?_) (fun c_76 => ?_)
              · skip
                exact absurd c_76 (by decide)
              · skip
                refine j_iconst X (a := 2) dX4_tell_79 (q := 80) rfl ?_
                refine j_goto X (tgt := 97) dX4_tell_80 (by decide) ?_
                refine j_callV X (As := [.int (iI (2))]) (st := []) hM.obj rfl (c_X4_holds hlt hM hI (2) (by decide)) sv_X4_73 (by decide) rfl (by first | decide | exact Nat.le_of_ble_eq_true rfl | simp [cat_rf, cat_i, cat_l, cat_r]) dX4_tell_97 (by decide) (fun _ _ h => h.elim) ?_
                rintro v9 w9 ⟨rfl, hM9, hF9⟩
                refine j_st (st := [.int (iI (tf (((2) : Int) = 0)))]) ?_
                have hx : tlC n r t u v = 2 := by unfold tlC; (repeat' split) <;> omega
                rw [← hx] at hM9
                have hb9 := tf_b (((2) : Int) = 0)
                refine j_if_ne X (tgt := 105) dX4_tell_100 (by decide) (q := 103) rfl (by omega) (fun c_100 => ?_) (fun c_100 => ?_)
                · skip
                  exact absurd c_100 (by decide)
                · skip
                  refine j_iconst X (a := 0) dX4_tell_103 (q := 104) rfl ?_
                  exact j_iret X rfl dX4_tell_104 (⟨by rw [hx]; rfl, by rw [hx] at hM9 ⊢; exact hM9, hF9⟩) (by decide) (by decide)
            · skip
              exact absurd c_67 (by decide)
          · skip
            refine j_iload X dX4_tell_43 (q := 45) rfl 5 rfl ?_
            refine j_iconst X (a := 1) dX4_tell_45 (q := 46) rfl ?_
            refine j_icmp_lt X (tgt := 61) dX4_tell_46 (by decide) (q := 49) rfl (by omega) (by omega) (fun c_46 => ?_) (fun c_46 => ?_)
            · skip
              refine j_iconst X (a := 0) dX4_tell_61 (q := 62) rfl ?_
              refine j_istore X (i := 6) dX4_tell_62 (by decide) (q := 64) rfl (lv' := [(6, .int (iI (0))), (5, .int (iI (1))), (0, .ref (am 0)), (1, .int (iI (r))), (2, .int (iI (t))), (3, .int (iI (u))), (4, .int (iI (v)))]) (by first | rfl | simp [cat_rf, cat_i, cat_l, cat_r]) ?_
              refine j_aload_n X dX4_tell_64 (q := 65) rfl 2 rfl ?_
              refine j_iload X dX4_tell_65 (q := 67) rfl 1 rfl ?_
              refine j_if_ne X (tgt := 74) dX4_tell_67 (by decide) (q := 70) rfl (by omega) (fun c_67 => ?_) (fun c_67 => ?_)
              · skip
                refine j_iload X dX4_tell_74 (q := 76) rfl 0 rfl ?_
                refine j_if_ne X (tgt := 83) dX4_tell_76 (by decide) (q := 79) rfl (by omega) (fun c_76 => ?_) (fun c_76 => ?_)
                · skip
                  exact absurd c_76 (by decide)
                · skip
                  refine j_iconst X (a := 2) dX4_tell_79 (q := 80) rfl ?_
                  refine j_goto X (tgt := 97) dX4_tell_80 (by decide) ?_
                  refine j_callV X (As := [.int (iI (2))]) (st := []) hM.obj rfl (c_X4_holds hlt hM hI (2) (by decide)) sv_X4_73 (by decide) rfl (by first | decide | exact Nat.le_of_ble_eq_true rfl | simp [cat_rf, cat_i, cat_l, cat_r]) dX4_tell_97 (by decide) (fun _ _ h => h.elim) ?_
                  rintro v9 w9 ⟨rfl, hM9, hF9⟩
                  refine j_st (st := [.int (iI (tf (((2) : Int) = 0)))]) ?_
                  have hx : tlC n r t u v = 2 := by unfold tlC; (repeat' split) <;> omega
                  rw [← hx] at hM9
                  have hb9 := tf_b (((2) : Int) = 0)
                  refine j_if_ne X (tgt := 105) dX4_tell_100 (by decide) (q := 103) rfl (by omega) (fun c_100 => ?_) (fun c_100 => ?_)
                  · skip
                    exact absurd c_100 (by decide)
                  · skip
                    refine j_iconst X (a := 0) dX4_tell_103 (q := 104) rfl ?_
                    exact j_iret X rfl dX4_tell_104 (⟨by rw [hx]; rfl, by rw [hx] at hM9 ⊢; exact hM9, hF9⟩) (by decide) (by decide)
              · skip
                exact absurd c_67 (by decide)
            · skip
              refine j_iload X dX4_tell_49 (q := 51) rfl 5 rfl ?_
              refine j_sipush X (a := 999) (by decide +kernel) dX4_tell_51 (q := 54) rfl ?_
              refine j_icmp_gt X (tgt := 61) dX4_tell_54 (by decide) (q := 57) rfl (by omega) (by omega) (fun c_54 => ?_) (fun c_54 => ?_)
              · skip
                refine j_iconst X (a := 0) dX4_tell_61 (q := 62) rfl ?_
                refine j_istore X (i := 6) dX4_tell_62 (by decide) (q := 64) rfl (lv' := [(6, .int (iI (0))), (5, .int (iI (1))), (0, .ref (am 0)), (1, .int (iI (r))), (2, .int (iI (t))), (3, .int (iI (u))), (4, .int (iI (v)))]) (by first | rfl | simp [cat_rf, cat_i, cat_l, cat_r]) ?_
                refine j_aload_n X dX4_tell_64 (q := 65) rfl 2 rfl ?_
                refine j_iload X dX4_tell_65 (q := 67) rfl 1 rfl ?_
                refine j_if_ne X (tgt := 74) dX4_tell_67 (by decide) (q := 70) rfl (by omega) (fun c_67 => ?_) (fun c_67 => ?_)
                · skip
                  refine j_iload X dX4_tell_74 (q := 76) rfl 0 rfl ?_
                  refine j_if_ne X (tgt := 83) dX4_tell_76 (by decide) (q := 79) rfl (by omega) (fun c_76 => ?_) (fun c_76 => ?_)
                  · skip
                    exact absurd c_76 (by decide)
                  · skip
                    refine j_iconst X (a := 2) dX4_tell_79 (q := 80) rfl ?_
                    refine j_goto X (tgt := 97) dX4_tell_80 (by decide) ?_
                    refine j_callV X (As := [.int (iI (2))]) (st := []) hM.obj rfl (c_X4_holds hlt hM hI (2) (by decide)) sv_X4_73 (by decide) rfl (by first | decide | exact Nat.le_of_ble_eq_true rfl | simp [cat_rf, cat_i, cat_l, cat_r]) dX4_tell_97 (by decide) (fun _ _ h => h.elim) ?_
                    rintro v9 w9 ⟨rfl, hM9, hF9⟩
                    refine j_st (st := [.int (iI (tf (((2) : Int) = 0)))]) ?_
                    have hx : tlC n r t u v = 2 := by unfold tlC; (repeat' split) <;> omega
                    rw [← hx] at hM9
                    have hb9 := tf_b (((2) : Int) = 0)
                    refine j_if_ne X (tgt := 105) dX4_tell_100 (by decide) (q := 103) rfl (by omega) (fun c_100 => ?_) (fun c_100 => ?_)
                    · skip
                      exact absurd c_100 (by decide)
                    · skip
                      refine j_iconst X (a := 0) dX4_tell_103 (q := 104) rfl ?_
                      exact j_iret X rfl dX4_tell_104 (⟨by rw [hx]; rfl, by rw [hx] at hM9 ⊢; exact hM9, hF9⟩) (by decide) (by decide)
                · skip
                  exact absurd c_67 (by decide)
              · skip
                refine j_iconst X (a := 1) dX4_tell_57 (q := 58) rfl ?_
                refine j_goto X (tgt := 62) dX4_tell_58 (by decide) ?_
                refine j_istore X (i := 6) dX4_tell_62 (by decide) (q := 64) rfl (lv' := [(6, .int (iI (1))), (5, .int (iI (1))), (0, .ref (am 0)), (1, .int (iI (r))), (2, .int (iI (t))), (3, .int (iI (u))), (4, .int (iI (v)))]) (by first | rfl | simp [cat_rf, cat_i, cat_l, cat_r]) ?_
                refine j_aload_n X dX4_tell_64 (q := 65) rfl 2 rfl ?_
                refine j_iload X dX4_tell_65 (q := 67) rfl 1 rfl ?_
                refine j_if_ne X (tgt := 74) dX4_tell_67 (by decide) (q := 70) rfl (by omega) (fun c_67 => ?_) (fun c_67 => ?_)
                · skip
                  refine j_iload X dX4_tell_74 (q := 76) rfl 0 rfl ?_
                  refine j_if_ne X (tgt := 83) dX4_tell_76 (by decide) (q := 79) rfl (by omega) (fun c_76 => ?_) (fun c_76 => ?_)
                  · skip
                    refine j_aload_n X dX4_tell_83 (q := 84) rfl 2 rfl ?_
                    refine j_get X (v := .int (iI (T 2 0))) fl_X4_66 hM.obj rfl dX4_tell_84 (q := 87) rfl ?_
                    refine j_bipush X (a := 12) (by decide +kernel) dX4_tell_87 (q := 89) rfl ?_
                    refine j_icmp_ne X (tgt := 96) dX4_tell_89 (by decide) (q := 92) rfl (by omega) (by omega) (fun c_89 => ?_) (fun c_89 => ?_)
                    · skip
                      refine j_iconst X (a := 0) dX4_tell_96 (q := 97) rfl ?_
                      refine j_callV X (As := [.int (iI (0))]) (st := []) hM.obj rfl (c_X4_holds hlt hM hI (0) (by decide)) sv_X4_73 (by decide) rfl (by first | decide | exact Nat.le_of_ble_eq_true rfl | simp [cat_rf, cat_i, cat_l, cat_r]) dX4_tell_97 (by decide) (fun _ _ h => h.elim) ?_
                      rintro v9 w9 ⟨rfl, hM9, hF9⟩
                      refine j_st (st := [.int (iI (tf (((0) : Int) = 0)))]) ?_
                      have hx : tlC n r t u v = 0 := by unfold tlC; (repeat' split) <;> omega
                      rw [← hx] at hM9
                      have hb9 := tf_b (((0) : Int) = 0)
                      refine j_if_ne X (tgt := 105) dX4_tell_100 (by decide) (q := 103) rfl (by omega) (fun c_100 => ?_) (fun c_100 => ?_)
                      · skip
                        refine j_aload_n X dX4_tell_105 (q := 106) rfl 2 rfl ?_
                        refine j_get X (v := .ref (am 4)) fl_X4_7 hM9.obj rfl dX4_tell_106 (q := 109) rfl ?_
                        refine j_aload_n X dX4_tell_109 (q := 110) rfl 2 rfl ?_
                        refine j_get X (v := .int (iI (T 2 0))) fl_X4_66 hM9.obj rfl dX4_tell_110 (q := 113) rfl ?_
                        refine j_iload_n X dX4_tell_113 (q := 114) rfl 3 rfl ?_
                        refine jm_iast X hM9 4 (by decide) rfl (by omega) (by show _ < (12 : Int); omega) dX4_tell_114 (q := 115) rfl (fun w_7 hMw_7 hFw_7 => ?_)
                        refine j_aload_n X dX4_tell_115 (q := 116) rfl 2 rfl ?_
                        refine j_get X (v := .ref (am 5)) fl_X4_13 hMw_7.obj rfl dX4_tell_116 (q := 119) rfl ?_
                        refine j_aload_n X dX4_tell_119 (q := 120) rfl 2 rfl ?_
                        refine j_get X (v := .int (iI (T 2 0))) fl_X4_66 hMw_7.obj rfl dX4_tell_120 (q := 123) rfl ?_
                        refine j_iload_n X dX4_tell_123 (q := 124) rfl 4 rfl ?_
                        refine jm_iast X hMw_7 5 (by decide) rfl (by omega) (by show _ < (12 : Int); omega) dX4_tell_124 (q := 125) rfl (fun w_8 hMw_8 hFw_8 => ?_)
                        refine j_aload_n X dX4_tell_125 (q := 126) rfl 2 rfl ?_
                        refine j_get X (v := .ref (am 6)) fl_X4_16 hMw_8.obj rfl dX4_tell_126 (q := 129) rfl ?_
                        refine j_aload_n X dX4_tell_129 (q := 130) rfl 2 rfl ?_
                        refine j_get X (v := .int (iI (T 2 0))) fl_X4_66 hMw_8.obj rfl dX4_tell_130 (q := 133) rfl ?_
                        refine j_iload_n X dX4_tell_133 (q := 134) rfl 5 rfl ?_
                        refine jm_iast X hMw_8 6 (by decide) rfl (by omega) (by show _ < (12 : Int); omega) dX4_tell_134 (q := 135) rfl (fun w_9 hMw_9 hFw_9 => ?_)
                        refine j_aload_n X dX4_tell_135 (q := 136) rfl 2 rfl ?_
                        refine j_get X (v := .ref (am 7)) fl_X4_19 hMw_9.obj rfl dX4_tell_136 (q := 139) rfl ?_
                        refine j_aload_n X dX4_tell_139 (q := 140) rfl 2 rfl ?_
                        refine j_get X (v := .int (iI (T 2 0))) fl_X4_66 hMw_9.obj rfl dX4_tell_140 (q := 143) rfl ?_
                        refine j_iload X dX4_tell_143 (q := 145) rfl 6 rfl ?_
                        refine jm_iast X hMw_9 7 (by decide) rfl (by omega) (by show _ < (12 : Int); omega) dX4_tell_145 (q := 146) rfl (fun w_10 hMw_10 hFw_10 => ?_)
                        refine j_aload_n X dX4_tell_146 (q := 147) rfl 2 rfl ?_
                        refine j_dup X (by first | rfl | exact cat_rf _) dX4_tell_147 (q := 148) rfl ?_
                        refine j_get X (v := .int (iI (T 2 0))) fl_X4_66 hMw_10.obj rfl dX4_tell_148 (q := 151) rfl ?_
                        refine j_iconst X (a := 1) dX4_tell_151 (q := 152) rfl ?_
                        refine j_iadd X dX4_tell_152 (q := 153) rfl ?_
                        refine jm_put2 X fp_X4_66 hMw_10 dX4_tell_153 (q := 156) rfl (fun w_11 hMw_11 hFw_11 => ?_)
                        refine j_aload_n X dX4_tell_156 (q := 157) rfl 2 rfl ?_
                        refine j_get X (v := .int (iI (T 2 0 + 1))) fl_X4_66 hMw_11.obj rfl dX4_tell_157 (q := 160) rfl ?_
                        refine j_iconst X (a := 1) dX4_tell_160 (q := 161) rfl ?_
                        refine j_isub X dX4_tell_161 (q := 162) rfl ?_
                        exact j_iret X rfl dX4_tell_162 (⟨by rw [hx, if_pos rfl, show T 2 0 + 1 - 1 = n by omega], by rw [hx, if_pos rfl]; rw [hx] at hMw_11; rw [tlM, ← e2]; exact hMw_11, (((((hF9).tr hFw_7).tr hFw_8).tr hFw_9).tr hFw_10).tr hFw_11⟩) (by decide) (by decide)
                      · skip
                        exact absurd c_100 (by decide)
                    · skip
                      refine j_iconst X (a := 3) dX4_tell_92 (q := 93) rfl ?_
                      refine j_goto X (tgt := 97) dX4_tell_93 (by decide) ?_
                      refine j_callV X (As := [.int (iI (3))]) (st := []) hM.obj rfl (c_X4_holds hlt hM hI (3) (by decide)) sv_X4_73 (by decide) rfl (by first | decide | exact Nat.le_of_ble_eq_true rfl | simp [cat_rf, cat_i, cat_l, cat_r]) dX4_tell_97 (by decide) (fun _ _ h => h.elim) ?_
                      rintro v9 w9 ⟨rfl, hM9, hF9⟩
                      refine j_st (st := [.int (iI (tf (((3) : Int) = 0)))]) ?_
                      have hx : tlC n r t u v = 3 := by unfold tlC; (repeat' split) <;> omega
                      rw [← hx] at hM9
                      have hb9 := tf_b (((3) : Int) = 0)
                      refine j_if_ne X (tgt := 105) dX4_tell_100 (by decide) (q := 103) rfl (by omega) (fun c_100 => ?_) (fun c_100 => ?_)
                      · skip
                        exact absurd c_100 (by decide)
                      · skip
                        refine j_iconst X (a := 0) dX4_tell_103 (q := 104) rfl ?_
                        exact j_iret X rfl dX4_tell_104 (⟨by rw [hx]; rfl, by rw [hx] at hM9 ⊢; exact hM9, hF9⟩) (by decide) (by decide)
                  · skip
                    exact absurd c_76 (by decide)
                · skip
                  exact absurd c_67 (by decide)
  · skip
    refine j_aload_n X dX4_tell_5 (q := 6) rfl 0 rfl ?_
    refine j_iload_n X dX4_tell_6 (q := 7) rfl 1 rfl ?_
    refine j_callV X (As := [.int (iI (r))]) (st := []) hM.obj rfl (c_X4_isInstrument hlt hM hI r hr) sv_X4_69 (by decide) rfl (by first | decide | exact Nat.le_of_ble_eq_true rfl | simp [cat_rf, cat_i, cat_l, cat_r]) dX4_tell_7 (by decide) (fun _ _ h => h.elim) ?_
    rintro v9 w9 ⟨rfl, rfl⟩
    refine j_st (st := [.int (iI (tf (0 ≤ r ∧ r < n)))]) ?_
    have hbr := tf_b (0 ≤ r ∧ r < n)
    refine j_if_eq X (tgt := 17) dX4_tell_10 (by decide) (q := 13) rfl (by omega) (fun c_10 => ?_) (fun c_10 => ?_)
    · skip
      have k2 : ¬ (0 ≤ r ∧ r < n) := tf_0 c_10
      refine j_iconst X (a := 0) dX4_tell_17 (q := 18) rfl ?_
      refine j_istore X (i := 5) dX4_tell_18 (by decide) (q := 20) rfl (lv' := [(5, .int (iI (0))), (0, .ref (am 0)), (1, .int (iI (r))), (2, .int (iI (t))), (3, .int (iI (u))), (4, .int (iI (v)))]) (by first | rfl | simp [cat_rf, cat_i, cat_l, cat_r]) ?_
      refine j_iload_n X dX4_tell_20 (q := 21) rfl 3 rfl ?_
      refine j_iconst X (a := 1) dX4_tell_21 (q := 22) rfl ?_
      refine j_icmp_lt X (tgt := 61) dX4_tell_22 (by decide) (q := 25) rfl (by omega) (by omega) (fun c_22 => ?_) (fun c_22 => ?_)
      · skip
        refine j_iconst X (a := 0) dX4_tell_61 (q := 62) rfl ?_
        refine j_istore X (i := 6) dX4_tell_62 (by decide) (q := 64) rfl (lv' := [(6, .int (iI (0))), (5, .int (iI (0))), (0, .ref (am 0)), (1, .int (iI (r))), (2, .int (iI (t))), (3, .int (iI (u))), (4, .int (iI (v)))]) (by first | rfl | simp [cat_rf, cat_i, cat_l, cat_r]) ?_
        refine j_aload_n X dX4_tell_64 (q := 65) rfl 2 rfl ?_
        refine j_iload X dX4_tell_65 (q := 67) rfl 1 rfl ?_
        refine j_if_ne X (tgt := 74) dX4_tell_67 (by decide) (q := 70) rfl (by omega) (fun c_67 => ?_) (fun c_67 => ?_)
        · skip
          exact absurd c_67 (by decide)
        · skip
          refine j_iconst X (a := 1) dX4_tell_70 (q := 71) rfl ?_
          refine j_goto X (tgt := 97) dX4_tell_71 (by decide) ?_
          refine j_callV X (As := [.int (iI (1))]) (st := []) hM.obj rfl (c_X4_holds hlt hM hI (1) (by decide)) sv_X4_73 (by decide) rfl (by first | decide | exact Nat.le_of_ble_eq_true rfl | simp [cat_rf, cat_i, cat_l, cat_r]) dX4_tell_97 (by decide) (fun _ _ h => h.elim) ?_
          rintro v9 w9 ⟨rfl, hM9, hF9⟩
          refine j_st (st := [.int (iI (tf (((1) : Int) = 0)))]) ?_
          have hx : tlC n r t u v = 1 := by unfold tlC; (repeat' split) <;> omega
          rw [← hx] at hM9
          have hb9 := tf_b (((1) : Int) = 0)
          refine j_if_ne X (tgt := 105) dX4_tell_100 (by decide) (q := 103) rfl (by omega) (fun c_100 => ?_) (fun c_100 => ?_)
          · skip
            exact absurd c_100 (by decide)
          · skip
            refine j_iconst X (a := 0) dX4_tell_103 (q := 104) rfl ?_
            exact j_iret X rfl dX4_tell_104 (⟨by rw [hx]; rfl, by rw [hx] at hM9 ⊢; exact hM9, hF9⟩) (by decide) (by decide)
      · skip
        refine j_iload_n X dX4_tell_25 (q := 26) rfl 3 rfl ?_
        refine j_sipush X (a := 9999) (by decide +kernel) dX4_tell_26 (q := 29) rfl ?_
        refine j_icmp_gt X (tgt := 61) dX4_tell_29 (by decide) (q := 32) rfl (by omega) (by omega) (fun c_29 => ?_) (fun c_29 => ?_)
        · skip
          refine j_iconst X (a := 0) dX4_tell_61 (q := 62) rfl ?_
          refine j_istore X (i := 6) dX4_tell_62 (by decide) (q := 64) rfl (lv' := [(6, .int (iI (0))), (5, .int (iI (0))), (0, .ref (am 0)), (1, .int (iI (r))), (2, .int (iI (t))), (3, .int (iI (u))), (4, .int (iI (v)))]) (by first | rfl | simp [cat_rf, cat_i, cat_l, cat_r]) ?_
          refine j_aload_n X dX4_tell_64 (q := 65) rfl 2 rfl ?_
          refine j_iload X dX4_tell_65 (q := 67) rfl 1 rfl ?_
          refine j_if_ne X (tgt := 74) dX4_tell_67 (by decide) (q := 70) rfl (by omega) (fun c_67 => ?_) (fun c_67 => ?_)
          · skip
            exact absurd c_67 (by decide)
          · skip
            refine j_iconst X (a := 1) dX4_tell_70 (q := 71) rfl ?_
            refine j_goto X (tgt := 97) dX4_tell_71 (by decide) ?_
            refine j_callV X (As := [.int (iI (1))]) (st := []) hM.obj rfl (c_X4_holds hlt hM hI (1) (by decide)) sv_X4_73 (by decide) rfl (by first | decide | exact Nat.le_of_ble_eq_true rfl | simp [cat_rf, cat_i, cat_l, cat_r]) dX4_tell_97 (by decide) (fun _ _ h => h.elim) ?_
            rintro v9 w9 ⟨rfl, hM9, hF9⟩
            refine j_st (st := [.int (iI (tf (((1) : Int) = 0)))]) ?_
            have hx : tlC n r t u v = 1 := by unfold tlC; (repeat' split) <;> omega
            rw [← hx] at hM9
            have hb9 := tf_b (((1) : Int) = 0)
            refine j_if_ne X (tgt := 105) dX4_tell_100 (by decide) (q := 103) rfl (by omega) (fun c_100 => ?_) (fun c_100 => ?_)
            · skip
              exact absurd c_100 (by decide)
            · skip
              refine j_iconst X (a := 0) dX4_tell_103 (q := 104) rfl ?_
              exact j_iret X rfl dX4_tell_104 (⟨by rw [hx]; rfl, by rw [hx] at hM9 ⊢; exact hM9, hF9⟩) (by decide) (by decide)
        · skip
          refine j_iload_n X dX4_tell_32 (q := 33) rfl 4 rfl ?_
          refine j_if_lt X (tgt := 61) dX4_tell_33 (by decide) (q := 36) rfl (by omega) (fun c_33 => ?_) (fun c_33 => ?_)
          · skip
            refine j_iconst X (a := 0) dX4_tell_61 (q := 62) rfl ?_
            refine j_istore X (i := 6) dX4_tell_62 (by decide) (q := 64) rfl (lv' := [(6, .int (iI (0))), (5, .int (iI (0))), (0, .ref (am 0)), (1, .int (iI (r))), (2, .int (iI (t))), (3, .int (iI (u))), (4, .int (iI (v)))]) (by first | rfl | simp [cat_rf, cat_i, cat_l, cat_r]) ?_
            refine j_aload_n X dX4_tell_64 (q := 65) rfl 2 rfl ?_
            refine j_iload X dX4_tell_65 (q := 67) rfl 1 rfl ?_
            refine j_if_ne X (tgt := 74) dX4_tell_67 (by decide) (q := 70) rfl (by omega) (fun c_67 => ?_) (fun c_67 => ?_)
            · skip
              exact absurd c_67 (by decide)
            · skip
              refine j_iconst X (a := 1) dX4_tell_70 (q := 71) rfl ?_
              refine j_goto X (tgt := 97) dX4_tell_71 (by decide) ?_
              refine j_callV X (As := [.int (iI (1))]) (st := []) hM.obj rfl (c_X4_holds hlt hM hI (1) (by decide)) sv_X4_73 (by decide) rfl (by first | decide | exact Nat.le_of_ble_eq_true rfl | simp [cat_rf, cat_i, cat_l, cat_r]) dX4_tell_97 (by decide) (fun _ _ h => h.elim) ?_
              rintro v9 w9 ⟨rfl, hM9, hF9⟩
              refine j_st (st := [.int (iI (tf (((1) : Int) = 0)))]) ?_
              have hx : tlC n r t u v = 1 := by unfold tlC; (repeat' split) <;> omega
              rw [← hx] at hM9
              have hb9 := tf_b (((1) : Int) = 0)
              refine j_if_ne X (tgt := 105) dX4_tell_100 (by decide) (q := 103) rfl (by omega) (fun c_100 => ?_) (fun c_100 => ?_)
              · skip
                exact absurd c_100 (by decide)
              · skip
                refine j_iconst X (a := 0) dX4_tell_103 (q := 104) rfl ?_
                exact j_iret X rfl dX4_tell_104 (⟨by rw [hx]; rfl, by rw [hx] at hM9 ⊢; exact hM9, hF9⟩) (by decide) (by decide)
          · skip
            refine j_iload_n X dX4_tell_36 (q := 37) rfl 4 rfl ?_
            refine j_sipush X (a := 999) (by decide +kernel) dX4_tell_37 (q := 40) rfl ?_
            refine j_icmp_gt X (tgt := 61) dX4_tell_40 (by decide) (q := 43) rfl (by omega) (by omega) (fun c_40 => ?_) (fun c_40 => ?_)
            · skip
              refine j_iconst X (a := 0) dX4_tell_61 (q := 62) rfl ?_
              refine j_istore X (i := 6) dX4_tell_62 (by decide) (q := 64) rfl (lv' := [(6, .int (iI (0))), (5, .int (iI (0))), (0, .ref (am 0)), (1, .int (iI (r))), (2, .int (iI (t))), (3, .int (iI (u))), (4, .int (iI (v)))]) (by first | rfl | simp [cat_rf, cat_i, cat_l, cat_r]) ?_
              refine j_aload_n X dX4_tell_64 (q := 65) rfl 2 rfl ?_
              refine j_iload X dX4_tell_65 (q := 67) rfl 1 rfl ?_
              refine j_if_ne X (tgt := 74) dX4_tell_67 (by decide) (q := 70) rfl (by omega) (fun c_67 => ?_) (fun c_67 => ?_)
              · skip
                exact absurd c_67 (by decide)
              · skip
                refine j_iconst X (a := 1) dX4_tell_70 (q := 71) rfl ?_
                refine j_goto X (tgt := 97) dX4_tell_71 (by decide) ?_
                refine j_callV X (As := [.int (iI (1))]) (st := []) hM.obj rfl (c_X4_holds hlt hM hI (1) (by decide)) sv_X4_73 (by decide) rfl (by first | decide | exact Nat.le_of_ble_eq_true rfl | simp [cat_rf, cat_i, cat_l, cat_r]) dX4_tell_97 (by decide) (fun _ _ h => h.elim) ?_
                rintro v9 w9 ⟨rfl, hM9, hF9⟩
                refine j_st (st := [.int (iI (tf (((1) : Int) = 0)))]) ?_
                have hx : tlC n r t u v = 1 := by unfold tlC; (repeat' split) <;> omega
                rw [← hx] at hM9
                have hb9 := tf_b (((1) : Int) = 0)
                refine j_if_ne X (tgt := 105) dX4_tell_100 (by decide) (q := 103) rfl (by omega) (fun c_100 => ?_) (fun c_100 => ?_)
                · skip
                  exact absurd c_100 (by decide)
                · skip
                  refine j_iconst X (a := 0) dX4_tell_103 (q := 104) rfl ?_
                  exact j_iret X rfl dX4_tell_104 (⟨by rw [hx]; rfl, by rw [hx] at hM9 ⊢; exact hM9, hF9⟩) (by decide) (by decide)
            · skip
              refine j_iload X dX4_tell_43 (q := 45) rfl 5 rfl ?_
              refine j_iconst X (a := 1) dX4_tell_45 (q := 46) rfl ?_
              refine j_icmp_lt X (tgt := 61) dX4_tell_46 (by decide) (q := 49) rfl (by omega) (by omega) (fun c_46 => ?_) (fun c_46 => ?_)
              · skip
                refine j_iconst X (a := 0) dX4_tell_61 (q := 62) rfl ?_
                refine j_istore X (i := 6) dX4_tell_62 (by decide) (q := 64) rfl (lv' := [(6, .int (iI (0))), (5, .int (iI (0))), (0, .ref (am 0)), (1, .int (iI (r))), (2, .int (iI (t))), (3, .int (iI (u))), (4, .int (iI (v)))]) (by first | rfl | simp [cat_rf, cat_i, cat_l, cat_r]) ?_
                refine j_aload_n X dX4_tell_64 (q := 65) rfl 2 rfl ?_
                refine j_iload X dX4_tell_65 (q := 67) rfl 1 rfl ?_
                refine j_if_ne X (tgt := 74) dX4_tell_67 (by decide) (q := 70) rfl (by omega) (fun c_67 => ?_) (fun c_67 => ?_)
                · skip
                  exact absurd c_67 (by decide)
                · skip
                  refine j_iconst X (a := 1) dX4_tell_70 (q := 71) rfl ?_
                  refine j_goto X (tgt := 97) dX4_tell_71 (by decide) ?_
                  refine j_callV X (As := [.int (iI (1))]) (st := []) hM.obj rfl (c_X4_holds hlt hM hI (1) (by decide)) sv_X4_73 (by decide) rfl (by first | decide | exact Nat.le_of_ble_eq_true rfl | simp [cat_rf, cat_i, cat_l, cat_r]) dX4_tell_97 (by decide) (fun _ _ h => h.elim) ?_
                  rintro v9 w9 ⟨rfl, hM9, hF9⟩
                  refine j_st (st := [.int (iI (tf (((1) : Int) = 0)))]) ?_
                  have hx : tlC n r t u v = 1 := by unfold tlC; (repeat' split) <;> omega
                  rw [← hx] at hM9
                  have hb9 := tf_b (((1) : Int) = 0)
                  refine j_if_ne X (tgt := 105) dX4_tell_100 (by decide) (q := 103) rfl (by omega) (fun c_100 => ?_) (fun c_100 => ?_)
                  · skip
                    exact absurd c_100 (by decide)
                  · skip
                    refine j_iconst X (a := 0) dX4_tell_103 (q := 104) rfl ?_
                    exact j_iret X rfl dX4_tell_104 (⟨by rw [hx]; rfl, by rw [hx] at hM9 ⊢; exact hM9, hF9⟩) (by decide) (by decide)
              · skip
                refine j_iload X dX4_tell_49 (q := 51) rfl 5 rfl ?_
                refine j_sipush X (a := 999) (by decide +kernel) dX4_tell_51 (q := 54) rfl ?_
                refine j_icmp_gt X (tgt := 61) dX4_tell_54 (by decide) (q := 57) rfl (by omega) (by omega) (fun c_54 => ?_) (fun c_54 => ?_)
                · skip
                  refine j_iconst X (a := 0) dX4_tell_61 (q := 62) rfl ?_
                  refine j_istore X (i := 6) dX4_tell_62 (by decide) (q := 64) rfl (lv' := [(6, .int (iI (0))), (5, .int (iI (0))), (0, .ref (am 0)), (1, .int (iI (r))), (2, .int (iI (t))), (3, .int (iI (u))), (4, .int (iI (v)))]) (by first | rfl | simp [cat_rf, cat_i, cat_l, cat_r]) ?_
                  refine j_aload_n X dX4_tell_64 (q := 65) rfl 2 rfl ?_
                  refine j_iload X dX4_tell_65 (q := 67) rfl 1 rfl ?_
                  refine j_if_ne X (tgt := 74) dX4_tell_67 (by decide) (q := 70) rfl (by omega) (fun c_67 => ?_) (fun c_67 => ?_)
                  · skip
                    exact absurd c_67 (by decide)
                  · skip
                    refine j_iconst X (a := 1) dX4_tell_70 (q := 71) rfl ?_
                    refine j_goto X (tgt := 97) dX4_tell_71 (by decide) ?_
                    refine j_callV X (As := [.int (iI (1))]) (st := []) hM.obj rfl (c_X4_holds hlt hM hI (1) (by decide)) sv_X4_73 (by decide) rfl (by first | decide | exact Nat.le_of_ble_eq_true rfl | simp [cat_rf, cat_i, cat_l, cat_r]) dX4_tell_97 (by decide) (fun _ _ h => h.elim) ?_
                    rintro v9 w9 ⟨rfl, hM9, hF9⟩
                    refine j_st (st := [.int (iI (tf (((1) : Int) = 0)))]) ?_
                    have hx : tlC n r t u v = 1 := by unfold tlC; (repeat' split) <;> omega
                    rw [← hx] at hM9
                    have hb9 := tf_b (((1) : Int) = 0)
                    refine j_if_ne X (tgt := 105) dX4_tell_100 (by decide) (q := 103) rfl (by omega) (fun c_100 => ?_) (fun c_100 => ?_)
                    · skip
                      exact absurd c_100 (by decide)
                    · skip
                      refine j_iconst X (a := 0) dX4_tell_103 (q := 104) rfl ?_
                      exact j_iret X rfl dX4_tell_104 (⟨by rw [hx]; rfl, by rw [hx] at hM9 ⊢; exact hM9, hF9⟩) (by decide) (by decide)
                · skip
                  refine j_iconst X (a := 1) dX4_tell_57 (q := 58) rfl ?_
                  refine j_goto X (tgt := 62) dX4_tell_58 (by decide) ?_
                  refine j_istore X (i := 6) dX4_tell_62 (by decide) (q := 64) rfl (lv' := [(6, .int (iI (1))), (5, .int (iI (0))), (0, .ref (am 0)), (1, .int (iI (r))), (2, .int (iI (t))), (3, .int (iI (u))), (4, .int (iI (v)))]) (by first | rfl | simp [cat_rf, cat_i, cat_l, cat_r]) ?_
                  refine j_aload_n X dX4_tell_64 (q := 65) rfl 2 rfl ?_
                  refine j_iload X dX4_tell_65 (q := 67) rfl 1 rfl ?_
                  refine j_if_ne X (tgt := 74) dX4_tell_67 (by decide) (q := 70) rfl (by omega) (fun c_67 => ?_) (fun c_67 => ?_)
                  · skip
                    exact absurd c_67 (by decide)
                  · skip
                    refine j_iconst X (a := 1) dX4_tell_70 (q := 71) rfl ?_
                    refine j_goto X (tgt := 97) dX4_tell_71 (by decide) ?_
                    refine j_callV X (As := [.int (iI (1))]) (st := []) hM.obj rfl (c_X4_holds hlt hM hI (1) (by decide)) sv_X4_73 (by decide) rfl (by first | decide | exact Nat.le_of_ble_eq_true rfl | simp [cat_rf, cat_i, cat_l, cat_r]) dX4_tell_97 (by decide) (fun _ _ h => h.elim) ?_
                    rintro v9 w9 ⟨rfl, hM9, hF9⟩
                    refine j_st (st := [.int (iI (tf (((1) : Int) = 0)))]) ?_
                    have hx : tlC n r t u v = 1 := by unfold tlC; (repeat' split) <;> omega
                    rw [← hx] at hM9
                    have hb9 := tf_b (((1) : Int) = 0)
                    refine j_if_ne X (tgt := 105) dX4_tell_100 (by decide) (q := 103) rfl (by omega) (fun c_100 => ?_) (fun c_100 => ?_)
                    · skip
                      exact absurd c_100 (by decide)
                    · skip
                      refine j_iconst X (a := 0) dX4_tell_103 (q := 104) rfl ?_
                      exact j_iret X rfl dX4_tell_104 (⟨by rw [hx]; rfl, by rw [hx] at hM9 ⊢; exact hM9, hF9⟩) (by decide) (by decide)
    · skip
      have k2 : 0 ≤ r ∧ r < n := tf_1 c_10
      refine j_iconst X (a := 1) dX4_tell_13 (q := 14) rfl ?_
      refine j_goto X (tgt := 18) dX4_tell_14 (by decide) ?_
      refine j_istore X (i := 5) dX4_tell_18 (by decide) (q := 20) rfl (lv' := [(5, .int (iI (1))), (0, .ref (am 0)), (1, .int (iI (r))), (2, .int (iI (t))), (3, .int (iI (u))), (4, .int (iI (v)))]) (by first | rfl | simp [cat_rf, cat_i, cat_l, cat_r]) ?_
      refine j_iload_n X dX4_tell_20 (q := 21) rfl 3 rfl ?_
      refine j_iconst X (a := 1) dX4_tell_21 (q := 22) rfl ?_
      refine j_icmp_lt X (tgt := 61) dX4_tell_22 (by decide) (q := 25) rfl (by omega) (by omega) (fun c_22 => ?_) (fun c_22 => ?_)
      · skip
        refine j_iconst X (a := 0) dX4_tell_61 (q := 62) rfl ?_
        refine j_istore X (i := 6) dX4_tell_62 (by decide) (q := 64) rfl (lv' := [(6, .int (iI (0))), (5, .int (iI (1))), (0, .ref (am 0)), (1, .int (iI (r))), (2, .int (iI (t))), (3, .int (iI (u))), (4, .int (iI (v)))]) (by first | rfl | simp [cat_rf, cat_i, cat_l, cat_r]) ?_
        refine j_aload_n X dX4_tell_64 (q := 65) rfl 2 rfl ?_
        refine j_iload X dX4_tell_65 (q := 67) rfl 1 rfl ?_
        refine j_if_ne X (tgt := 74) dX4_tell_67 (by decide) (q := 70) rfl (by omega) (fun c_67 => ?_) (fun c_67 => ?_)
        · skip
          refine j_iload X dX4_tell_74 (q := 76) rfl 0 rfl ?_
          refine j_if_ne X (tgt := 83) dX4_tell_76 (by decide) (q := 79) rfl (by omega) (fun c_76 => ?_) (fun c_76 => ?_)
          · skip
            exact absurd c_76 (by decide)
          · skip
            refine j_iconst X (a := 2) dX4_tell_79 (q := 80) rfl ?_
            refine j_goto X (tgt := 97) dX4_tell_80 (by decide) ?_
            refine j_callV X (As := [.int (iI (2))]) (st := []) hM.obj rfl (c_X4_holds hlt hM hI (2) (by decide)) sv_X4_73 (by decide) rfl (by first | decide | exact Nat.le_of_ble_eq_true rfl | simp [cat_rf, cat_i, cat_l, cat_r]) dX4_tell_97 (by decide) (fun _ _ h => h.elim) ?_
            rintro v9 w9 ⟨rfl, hM9, hF9⟩
            refine j_st (st := [.int (iI (tf (((2) : Int) = 0)))]) ?_
            have hx : tlC n r t u v = 2 := by unfold tlC; (repeat' split) <;> omega
            rw [← hx] at hM9
            have hb9 := tf_b (((2) : Int) = 0)
            refine j_if_ne X (tgt := 105) dX4_tell_100 (by decide) (q := 103) rfl (by omega) (fun c_100 => ?_) (fun c_100 => ?_)
            · skip
              exact absurd c_100 (by decide)
            · skip
              refine j_iconst X (a := 0) dX4_tell_103 (q := 104) rfl ?_
              exact j_iret X rfl dX4_tell_104 (⟨by rw [hx]; rfl, by rw [hx] at hM9 ⊢; exact hM9, hF9⟩) (by decide) (by decide)
        · skip
          exact absurd c_67 (by decide)
      · skip
        refine j_iload_n X dX4_tell_25 (q := 26) rfl 3 rfl ?_
        refine j_sipush X (a := 9999) (by decide +kernel) dX4_tell_26 (q := 29) rfl ?_
        refine j_icmp_gt X (tgt := 61) dX4_tell_29 (by decide) (q := 32) rfl (by omega) (by omega) (fun c_29 => ?_) (fun c_29 => ?_)
        · skip
          refine j_iconst X (a := 0) dX4_tell_61 (q := 62) rfl ?_
          refine j_istore X (i := 6) dX4_tell_62 (by decide) (q := 64) rfl (lv' := [(6, .int (iI (0))), (5, .int (iI (1))), (0, .ref (am 0)), (1, .int (iI (r))), (2, .int (iI (t))), (3, .int (iI (u))), (4, .int (iI (v)))]) (by first | rfl | simp [cat_rf, cat_i, cat_l, cat_r]) ?_
          refine j_aload_n X dX4_tell_64 (q := 65) rfl 2 rfl ?_
          refine j_iload X dX4_tell_65 (q := 67) rfl 1 rfl ?_
          refine j_if_ne X (tgt := 74) dX4_tell_67 (by decide) (q := 70) rfl (by omega) (fun c_67 => ?_) (fun c_67 => ?_)
          · skip
            refine j_iload X dX4_tell_74 (q := 76) rfl 0 rfl ?_
            refine j_if_ne X (tgt := 83) dX4_tell_76 (by decide) (q := 79) rfl (by omega) (fun c_76 => ?_) (fun c_76 => ?_)
            · skip
              exact absurd c_76 (by decide)
            · skip
              refine j_iconst X (a := 2) dX4_tell_79 (q := 80) rfl ?_
              refine j_goto X (tgt := 97) dX4_tell_80 (by decide) ?_
              refine j_callV X (As := [.int (iI (2))]) (st := []) hM.obj rfl (c_X4_holds hlt hM hI (2) (by decide)) sv_X4_73 (by decide) rfl (by first | decide | exact Nat.le_of_ble_eq_true rfl | simp [cat_rf, cat_i, cat_l, cat_r]) dX4_tell_97 (by decide) (fun _ _ h => h.elim) ?_
              rintro v9 w9 ⟨rfl, hM9, hF9⟩
              refine j_st (st := [.int (iI (tf (((2) : Int) = 0)))]) ?_
              have hx : tlC n r t u v = 2 := by unfold tlC; (repeat' split) <;> omega
              rw [← hx] at hM9
              have hb9 := tf_b (((2) : Int) = 0)
              refine j_if_ne X (tgt := 105) dX4_tell_100 (by decide) (q := 103) rfl (by omega) (fun c_100 => ?_) (fun c_100 => ?_)
              · skip
                exact absurd c_100 (by decide)
              · skip
                refine j_iconst X (a := 0) dX4_tell_103 (q := 104) rfl ?_
                exact j_iret X rfl dX4_tell_104 (⟨by rw [hx]; rfl, by rw [hx] at hM9 ⊢; exact hM9, hF9⟩) (by decide) (by decide)
          · skip
            exact absurd c_67 (by decide)
        · skip
          refine j_iload_n X dX4_tell_32 (q := 33) rfl 4 rfl ?_
          refine j_if_lt X (tgt := 61) dX4_tell_33 (by decide) (q := 36) rfl (by omega) (fun c_33 => ?_) (fun c_33 => ?_)
          · skip
            refine j_iconst X (a := 0) dX4_tell_61 (q := 62) rfl ?_
            refine j_istore X (i := 6) dX4_tell_62 (by decide) (q := 64) rfl (lv' := [(6, .int (iI (0))), (5, .int (iI (1))), (0, .ref (am 0)), (1, .int (iI (r))), (2, .int (iI (t))), (3, .int (iI (u))), (4, .int (iI (v)))]) (by first | rfl | simp [cat_rf, cat_i, cat_l, cat_r]) ?_
            refine j_aload_n X dX4_tell_64 (q := 65) rfl 2 rfl ?_
            refine j_iload X dX4_tell_65 (q := 67) rfl 1 rfl ?_
            refine j_if_ne X (tgt := 74) dX4_tell_67 (by decide) (q := 70) rfl (by omega) (fun c_67 => ?_) (fun c_67 => ?_)
            · skip
              refine j_iload X dX4_tell_74 (q := 76) rfl 0 rfl ?_
              refine j_if_ne X (tgt := 83) dX4_tell_76 (by decide) (q := 79) rfl (by omega) (fun c_76 => ?_) (fun c_76 => ?_)
              · skip
                exact absurd c_76 (by decide)
              · skip
                refine j_iconst X (a := 2) dX4_tell_79 (q := 80) rfl ?_
                refine j_goto X (tgt := 97) dX4_tell_80 (by decide) ?_
                refine j_callV X (As := [.int (iI (2))]) (st := []) hM.obj rfl (c_X4_holds hlt hM hI (2) (by decide)) sv_X4_73 (by decide) rfl (by first | decide | exact Nat.le_of_ble_eq_true rfl | simp [cat_rf, cat_i, cat_l, cat_r]) dX4_tell_97 (by decide) (fun _ _ h => h.elim) ?_
                rintro v9 w9 ⟨rfl, hM9, hF9⟩
                refine j_st (st := [.int (iI (tf (((2) : Int) = 0)))]) ?_
                have hx : tlC n r t u v = 2 := by unfold tlC; (repeat' split) <;> omega
                rw [← hx] at hM9
                have hb9 := tf_b (((2) : Int) = 0)
                refine j_if_ne X (tgt := 105) dX4_tell_100 (by decide) (q := 103) rfl (by omega) (fun c_100 => ?_) (fun c_100 => ?_)
                · skip
                  exact absurd c_100 (by decide)
                · skip
                  refine j_iconst X (a := 0) dX4_tell_103 (q := 104) rfl ?_
                  exact j_iret X rfl dX4_tell_104 (⟨by rw [hx]; rfl, by rw [hx] at hM9 ⊢; exact hM9, hF9⟩) (by decide) (by decide)
            · skip
              exact absurd c_67 (by decide)
          · skip
            refine j_iload_n X dX4_tell_36 (q := 37) rfl 4 rfl ?_
            refine j_sipush X (a := 999) (by decide +kernel) dX4_tell_37 (q := 40) rfl ?_
            refine j_icmp_gt X (tgt := 61) dX4_tell_40 (by decide) (q := 43) rfl (by omega) (by omega) (fun c_40 => ?_) (fun c_40 => ?_)
            · skip
              refine j_iconst X (a := 0) dX4_tell_61 (q := 62) rfl ?_
              refine j_istore X (i := 6) dX4_tell_62 (by decide) (q := 64) rfl (lv' := [(6, .int (iI (0))), (5, .int (iI (1))), (0, .ref (am 0)), (1, .int (iI (r))), (2, .int (iI (t))), (3, .int (iI (u))), (4, .int (iI (v)))]) (by first | rfl | simp [cat_rf, cat_i, cat_l, cat_r]) ?_
              refine j_aload_n X dX4_tell_64 (q := 65) rfl 2 rfl ?_
              refine j_iload X dX4_tell_65 (q := 67) rfl 1 rfl ?_
              refine j_if_ne X (tgt := 74) dX4_tell_67 (by decide) (q := 70) rfl (by omega) (fun c_67 => ?_) (fun c_67 => ?_)
              · skip
                refine j_iload X dX4_tell_74 (q := 76) rfl 0 rfl ?_
                refine j_if_ne X (tgt := 83) dX4_tell_76 (by decide) (q := 79) rfl (by omega) (fun c_76 => ?_) (fun c_76 => ?_)
                · skip
                  exact absurd c_76 (by decide)
                · skip
                  refine j_iconst X (a := 2) dX4_tell_79 (q := 80) rfl ?_
                  refine j_goto X (tgt := 97) dX4_tell_80 (by decide) ?_
                  refine j_callV X (As := [.int (iI (2))]) (st := []) hM.obj rfl (c_X4_holds hlt hM hI (2) (by decide)) sv_X4_73 (by decide) rfl (by first | decide | exact Nat.le_of_ble_eq_true rfl | simp [cat_rf, cat_i, cat_l, cat_r]) dX4_tell_97 (by decide) (fun _ _ h => h.elim) ?_
                  rintro v9 w9 ⟨rfl, hM9, hF9⟩
                  refine j_st (st := [.int (iI (tf (((2) : Int) = 0)))]) ?_
                  have hx : tlC n r t u v = 2 := by unfold tlC; (repeat' split) <;> omega
                  rw [← hx] at hM9
                  have hb9 := tf_b (((2) : Int) = 0)
                  refine j_if_ne X (tgt := 105) dX4_tell_100 (by decide) (q := 103) rfl (by omega) (fun c_100 => ?_) (fun c_100 => ?_)
                  · skip
                    exact absurd c_100 (by decide)
                  · skip
                    refine j_iconst X (a := 0) dX4_tell_103 (q := 104) rfl ?_
                    exact j_iret X rfl dX4_tell_104 (⟨by rw [hx]; rfl, by rw [hx] at hM9 ⊢; exact hM9, hF9⟩) (by decide) (by decide)
              · skip
                exact absurd c_67 (by decide)
            · skip
              refine j_iload X dX4_tell_43 (q := 45) rfl 5 rfl ?_
              refine j_iconst X (a := 1) dX4_tell_45 (q := 46) rfl ?_
              refine j_icmp_lt X (tgt := 61) dX4_tell_46 (by decide) (q := 49) rfl (by omega) (by omega) (fun c_46 => ?_) (fun c_46 => ?_)
              · skip
                refine j_iconst X (a := 0) dX4_tell_61 (q := 62) rfl ?_
                refine j_istore X (i := 6) dX4_tell_62 (by decide) (q := 64) rfl (lv' := [(6, .int (iI (0))), (5, .int (iI (1))), (0, .ref (am 0)), (1, .int (iI (r))), (2, .int (iI (t))), (3, .int (iI (u))), (4, .int (iI (v)))]) (by first | rfl | simp [cat_rf, cat_i, cat_l, cat_r]) ?_
                refine j_aload_n X dX4_tell_64 (q := 65) rfl 2 rfl ?_
                refine j_iload X dX4_tell_65 (q := 67) rfl 1 rfl ?_
                refine j_if_ne X (tgt := 74) dX4_tell_67 (by decide) (q := 70) rfl (by omega) (fun c_67 => ?_) (fun c_67 => ?_)
                · skip
                  refine j_iload X dX4_tell_74 (q := 76) rfl 0 rfl ?_
                  refine j_if_ne X (tgt := 83) dX4_tell_76 (by decide) (q := 79) rfl (by omega) (fun c_76 => ?_) (fun c_76 => ?_)
                  · skip
                    exact absurd c_76 (by decide)
                  · skip
                    refine j_iconst X (a := 2) dX4_tell_79 (q := 80) rfl ?_
                    refine j_goto X (tgt := 97) dX4_tell_80 (by decide) ?_
                    refine j_callV X (As := [.int (iI (2))]) (st := []) hM.obj rfl (c_X4_holds hlt hM hI (2) (by decide)) sv_X4_73 (by decide) rfl (by first | decide | exact Nat.le_of_ble_eq_true rfl | simp [cat_rf, cat_i, cat_l, cat_r]) dX4_tell_97 (by decide) (fun _ _ h => h.elim) ?_
                    rintro v9 w9 ⟨rfl, hM9, hF9⟩
                    refine j_st (st := [.int (iI (tf (((2) : Int) = 0)))]) ?_
                    have hx : tlC n r t u v = 2 := by unfold tlC; (repeat' split) <;> omega
                    rw [← hx] at hM9
                    have hb9 := tf_b (((2) : Int) = 0)
                    refine j_if_ne X (tgt := 105) dX4_tell_100 (by decide) (q := 103) rfl (by omega) (fun c_100 => ?_) (fun c_100 => ?_)
                    · skip
                      exact absurd c_100 (by decide)
                    · skip
                      refine j_iconst X (a := 0) dX4_tell_103 (q := 104) rfl ?_
                      exact j_iret X rfl dX4_tell_104 (⟨by rw [hx]; rfl, by rw [hx] at hM9 ⊢; exact hM9, hF9⟩) (by decide) (by decide)
                · skip
                  exact absurd c_67 (by decide)
              · skip
                refine j_iload X dX4_tell_49 (q := 51) rfl 5 rfl ?_
                refine j_sipush X (a := 999) (by decide +kernel) dX4_tell_51 (q := 54) rfl ?_
                refine j_icmp_gt X (tgt := 61) dX4_tell_54 (by decide) (q := 57) rfl (by omega) (by omega) (fun c_54 => ?_) (fun c_54 => ?_)
                · skip
                  refine j_iconst X (a := 0) dX4_tell_61 (q := 62) rfl ?_
                  refine j_istore X (i := 6) dX4_tell_62 (by decide) (q := 64) rfl (lv' := [(6, .int (iI (0))), (5, .int (iI (1))), (0, .ref (am 0)), (1, .int (iI (r))), (2, .int (iI (t))), (3, .int (iI (u))), (4, .int (iI (v)))]) (by first | rfl | simp [cat_rf, cat_i, cat_l, cat_r]) ?_
                  refine j_aload_n X dX4_tell_64 (q := 65) rfl 2 rfl ?_
                  refine j_iload X dX4_tell_65 (q := 67) rfl 1 rfl ?_
                  refine j_if_ne X (tgt := 74) dX4_tell_67 (by decide) (q := 70) rfl (by omega) (fun c_67 => ?_) (fun c_67 => ?_)
                  · skip
                    refine j_iload X dX4_tell_74 (q := 76) rfl 0 rfl ?_
                    refine j_if_ne X (tgt := 83) dX4_tell_76 (by decide) (q := 79) rfl (by omega) (fun c_76 => ?_) (fun c_76 => ?_)
                    · skip
                      exact absurd c_76 (by decide)
                    · skip
                      refine j_iconst X (a := 2) dX4_tell_79 (q := 80) rfl ?_
                      refine j_goto X (tgt := 97) dX4_tell_80 (by decide) ?_
                      refine j_callV X (As := [.int (iI (2))]) (st := []) hM.obj rfl (c_X4_holds hlt hM hI (2) (by decide)) sv_X4_73 (by decide) rfl (by first | decide | exact Nat.le_of_ble_eq_true rfl | simp [cat_rf, cat_i, cat_l, cat_r]) dX4_tell_97 (by decide) (fun _ _ h => h.elim) ?_
                      rintro v9 w9 ⟨rfl, hM9, hF9⟩
                      refine j_st (st := [.int (iI (tf (((2) : Int) = 0)))]) ?_
                      have hx : tlC n r t u v = 2 := by unfold tlC; (repeat' split) <;> omega
                      rw [← hx] at hM9
                      have hb9 := tf_b (((2) : Int) = 0)
                      refine j_if_ne X (tgt := 105) dX4_tell_100 (by decide) (q := 103) rfl (by omega) (fun c_100 => ?_) (fun c_100 => ?_)
                      · skip
                        exact absurd c_100 (by decide)
                      · skip
                        refine j_iconst X (a := 0) dX4_tell_103 (q := 104) rfl ?_
                        exact j_iret X rfl dX4_tell_104 (⟨by rw [hx]; rfl, by rw [hx] at hM9 ⊢; exact hM9, hF9⟩) (by decide) (by decide)
                  · skip
                    exact absurd c_67 (by decide)
                · skip
                  refine j_iconst X (a := 1) dX4_tell_57 (q := 58) rfl ?_
                  refine j_goto X (tgt := 62) dX4_tell_58 (by decide) ?_
                  refine j_istore X (i := 6) dX4_tell_62 (by decide) (q := 64) rfl (lv' := [(6, .int (iI (1))), (5, .int (iI (1))), (0, .ref (am 0)), (1, .int (iI (r))), (2, .int (iI (t))), (3, .int (iI (u))), (4, .int (iI (v)))]) (by first | rfl | simp [cat_rf, cat_i, cat_l, cat_r]) ?_
                  refine j_aload_n X dX4_tell_64 (q := 65) rfl 2 rfl ?_
                  refine j_iload X dX4_tell_65 (q := 67) rfl 1 rfl ?_
                  refine j_if_ne X (tgt := 74) dX4_tell_67 (by decide) (q := 70) rfl (by omega) (fun c_67 => ?_) (fun c_67 => ?_)
                  · skip
                    refine j_iload X dX4_tell_74 (q := 76) rfl 0 rfl ?_
                    refine j_if_ne X (tgt := 83) dX4_tell_76 (by decide) (q := 79) rfl (by omega) (fun c_76 => ?_) (fun c_76 => ?_)
                    · skip
                      refine j_aload_n X dX4_tell_83 (q := 84) rfl 2 rfl ?_
                      refine j_get X (v := .int (iI (T 2 0))) fl_X4_66 hM.obj rfl dX4_tell_84 (q := 87) rfl ?_
                      refine j_bipush X (a := 12) (by decide +kernel) dX4_tell_87 (q := 89) rfl ?_
                      refine j_icmp_ne X (tgt := 96) dX4_tell_89 (by decide) (q := 92) rfl (by omega) (by omega) (fun c_89 => ?_) (fun c_89 => ?_)
                      · skip
                        refine j_iconst X (a := 0) dX4_tell_96 (q := 97) rfl ?_
                        refine j_callV X (As := [.int (iI (0))]) (st := []) hM.obj rfl (c_X4_holds hlt hM hI (0) (by decide)) sv_X4_73 (by decide) rfl (by first | decide | exact Nat.le_of_ble_eq_true rfl | simp [cat_rf, cat_i, cat_l, cat_r]) dX4_tell_97 (by decide) (fun _ _ h => h.elim) ?_
                        rintro v9 w9 ⟨rfl, hM9, hF9⟩
                        refine j_st (st := [.int (iI (tf (((0) : Int) = 0)))]) ?_
                        have hx : tlC n r t u v = 0 := by unfold tlC; (repeat' split) <;> omega
                        rw [← hx] at hM9
                        have hb9 := tf_b (((0) : Int) = 0)
                        refine j_if_ne X (tgt := 105) dX4_tell_100 (by decide) (q := 103) rfl (by omega) (fun c_100 => ?_) (fun c_100 => ?_)
                        · skip
                          refine j_aload_n X dX4_tell_105 (q := 106) rfl 2 rfl ?_
                          refine j_get X (v := .ref (am 4)) fl_X4_7 hM9.obj rfl dX4_tell_106 (q := 109) rfl ?_
                          refine j_aload_n X dX4_tell_109 (q := 110) rfl 2 rfl ?_
                          refine j_get X (v := .int (iI (T 2 0))) fl_X4_66 hM9.obj rfl dX4_tell_110 (q := 113) rfl ?_
                          refine j_iload_n X dX4_tell_113 (q := 114) rfl 3 rfl ?_
                          refine jm_iast X hM9 4 (by decide) rfl (by omega) (by show _ < (12 : Int); omega) dX4_tell_114 (q := 115) rfl (fun w_12 hMw_12 hFw_12 => ?_)
                          refine j_aload_n X dX4_tell_115 (q := 116) rfl 2 rfl ?_
                          refine j_get X (v := .ref (am 5)) fl_X4_13 hMw_12.obj rfl dX4_tell_116 (q := 119) rfl ?_
                          refine j_aload_n X dX4_tell_119 (q := 120) rfl 2 rfl ?_
                          refine j_get X (v := .int (iI (T 2 0))) fl_X4_66 hMw_12.obj rfl dX4_tell_120 (q := 123) rfl ?_
                          refine j_iload_n X dX4_tell_123 (q := 124) rfl 4 rfl ?_
                          refine jm_iast X hMw_12 5 (by decide) rfl (by omega) (by show _ < (12 : Int); omega) dX4_tell_124 (q := 125) rfl (fun w_13 hMw_13 hFw_13 => ?_)
                          refine j_aload_n X dX4_tell_125 (q := 126) rfl 2 rfl ?_
                          refine j_get X (v := .ref (am 6)) fl_X4_16 hMw_13.obj rfl dX4_tell_126 (q := 129) rfl ?_
                          refine j_aload_n X dX4_tell_129 (q := 130) rfl 2 rfl ?_
                          refine j_get X (v := .int (iI (T 2 0))) fl_X4_66 hMw_13.obj rfl dX4_tell_130 (q := 133) rfl ?_
                          refine j_iload_n X dX4_tell_133 (q := 134) rfl 5 rfl ?_
                          refine jm_iast X hMw_13 6 (by decide) rfl (by omega) (by show _ < (12 : Int); omega) dX4_tell_134 (q := 135) rfl (fun w_14 hMw_14 hFw_14 => ?_)
                          refine j_aload_n X dX4_tell_135 (q := 136) rfl 2 rfl ?_
                          refine j_get X (v := .ref (am 7)) fl_X4_19 hMw_14.obj rfl dX4_tell_136 (q := 139) rfl ?_
                          refine j_aload_n X dX4_tell_139 (q := 140) rfl 2 rfl ?_
                          refine j_get X (v := .int (iI (T 2 0))) fl_X4_66 hMw_14.obj rfl dX4_tell_140 (q := 143) rfl ?_
                          refine j_iload X dX4_tell_143 (q := 145) rfl 6 rfl ?_
                          refine jm_iast X hMw_14 7 (by decide) rfl (by omega) (by show _ < (12 : Int); omega) dX4_tell_145 (q := 146) rfl (fun w_15 hMw_15 hFw_15 => ?_)
                          refine j_aload_n X dX4_tell_146 (q := 147) rfl 2 rfl ?_
                          refine j_dup X (by first | rfl | exact cat_rf _) dX4_tell_147 (q := 148) rfl ?_
                          refine j_get X (v := .int (iI (T 2 0))) fl_X4_66 hMw_15.obj rfl dX4_tell_148 (q := 151) rfl ?_
                          refine j_iconst X (a := 1) dX4_tell_151 (q := 152) rfl ?_
                          refine j_iadd X dX4_tell_152 (q := 153) rfl ?_
                          refine jm_put2 X fp_X4_66 hMw_15 dX4_tell_153 (q := 156) rfl (fun w_16 hMw_16 hFw_16 => ?_)
                          refine j_aload_n X dX4_tell_156 (q := 157) rfl 2 rfl ?_
                          refine j_get X (v := .int (iI (T 2 0 + 1))) fl_X4_66 hMw_16.obj rfl dX4_tell_157 (q := 160) rfl ?_
                          refine j_iconst X (a := 1) dX4_tell_160 (q := 161) rfl ?_
                          refine j_isub X dX4_tell_161 (q := 162) rfl ?_
                          exact j_iret X rfl dX4_tell_162 (⟨by rw [hx, if_pos rfl, show T 2 0 + 1 - 1 = n by omega], by rw [hx, if_pos rfl]; rw [hx] at hMw_16; rw [tlM, ← e2]; exact hMw_16, (((((hF9).tr hFw_12).tr hFw_13).tr hFw_14).tr hFw_15).tr hFw_16⟩) (by decide) (by decide)
                        · skip
                          exact absurd c_100 (by decide)
                      · skip
                        refine j_iconst X (a := 3) dX4_tell_92 (q := 93) rfl ?_
                        refine j_goto X (tgt := 97) dX4_tell_93 (by decide) ?_
                        refine j_callV X (As := [.int (iI (3))]) (st := []) hM.obj rfl (c_X4_holds hlt hM hI (3) (by decide)) sv_X4_73 (by decide) rfl (by first | decide | exact Nat.le_of_ble_eq_true rfl | simp [cat_rf, cat_i, cat_l, cat_r]) dX4_tell_97 (by decide) (fun _ _ h => h.elim) ?_
                        rintro v9 w9 ⟨rfl, hM9, hF9⟩
                        refine j_st (st := [.int (iI (tf (((3) : Int) = 0)))]) ?_
                        have hx : tlC n r t u v = 3 := by unfold tlC; (repeat' split) <;> omega
                        rw [← hx] at hM9
                        have hb9 := tf_b (((3) : Int) = 0)
                        refine j_if_ne X (tgt := 105) dX4_tell_100 (by decide) (q := 103) rfl (by omega) (fun c_100 => ?_) (fun c_100 => ?_)
                        · skip
                          exact absurd c_100 (by decide)
                        · skip
                          refine j_iconst X (a := 0) dX4_tell_103 (q := 104) rfl ?_
                          exact j_iret X rfl dX4_tell_104 (⟨by rw [hx]; rfl, by rw [hx] at hM9 ⊢; exact hM9, hF9⟩) (by decide) (by decide)
                    · skip
                      exact absurd c_76 (by decide)
                  · skip
                    exact absurd c_67 (by decide)

set_option maxRecDepth 100000 in
set_option maxHeartbeats 4000000 in
theorem c_X4_measure {l : Launch} (hlt : l.stackTraces = false) {D : va_G} {ca : Nat → ClassId} {base : Nat} {am : Nat → Nat} {th : Int} {n nm : Int} {T : St} {w : Wd} (hM : MW base ca am th T w) (hI : MI n nm T) (z : Int) (hz : -2147483648 ≤ z ∧ z ≤ 2147483647) : CT l D ca base yX4_measure cX4_measure 3 (some .int) 3 0 0 [.ref (am 0), .int (iI (z))] w (fun v w' => v = some (.int (iI (if msC n nm T z = 0 then nm else 0))) ∧ MW base ca am (msC n nm T z) (if msC n nm T z = 0 then msM T nm z else T) w' ∧ Fr 1 w w') (fun _ _ => False) := by
  obtain ⟨hn, hnm, e2, e18, h1t, h3t⟩ := hI.top
  refine CT.mk hlt (by decide +kernel) (by first | exact Nat.le_of_ble_eq_true rfl | simp [lg_sl, cat_rf, cat_i, cat_l, cat_r]) ?_
  intro p e s m args below meth c X htab
  rw [show lv_args 0 [.ref (am 0), .int (iI (z))] = [(0, .ref (am 0)), (1, .int (iI (z)))] from by first | rfl | simp [lv_args, cat_rf, cat_i, cat_l, cat_r]]
  refine j_aload_n X dX4_measure_0 (q := 1) rfl 0 rfl ?_
  refine j_iload_n X dX4_measure_1 (q := 2) rfl 1 rfl ?_
  refine j_callV X (As := [.int (iI (z))]) (st := []) hM.obj rfl (c_X4_isInstrument hlt hM hI z hz) sv_X4_69 (by decide) rfl (by first | decide | exact Nat.le_of_ble_eq_true rfl | simp [cat_rf, cat_i, cat_l, cat_r]) dX4_measure_2 (by decide) (fun _ _ h => h.elim) ?_
  rintro v9 w9 ⟨rfl, rfl⟩
  refine j_st (st := [.int (iI (tf (0 ≤ z ∧ z < n)))]) ?_
  have hb := tf_b (0 ≤ z ∧ z < n)
  refine j_istore_n X (i := 2) dX4_measure_5 rfl (by decide) (q := 6) rfl (lv' := [(2, .int (iI (tf (0 ≤ z ∧ z < n)))), (0, .ref (am 0)), (1, .int (iI (z)))]) (by first | rfl | simp [cat_rf, cat_i, cat_l, cat_r]) ?_
  refine j_aload_n X dX4_measure_6 (q := 7) rfl 1 rfl ?_
  refine j_iload_n X dX4_measure_7 (q := 8) rfl 0 rfl ?_
  refine j_if_ne X (tgt := 15) dX4_measure_8 (by decide) (q := 11) rfl (by omega) (fun c_8 => ?_) (fun c_8 => ?_)
  · skip
    have k1 : 0 ≤ z ∧ z < n := tf_1 c_8
    obtain ⟨t_17_0, t_17_1, t_17_2, t_17_3, t_17_4, t_17_5, t_17_6, t_17_7, t_17_8, t_17_9, t_17_10, t_17_11⟩ := hI.ins (i := z) k1.1 k1.2
    refine j_aload_n X dX4_measure_15 (q := 16) rfl 1 rfl ?_
    refine j_iload_n X dX4_measure_16 (q := 17) rfl 2 rfl ?_
    refine j_callV X (As := [.int (iI (z))]) (st := [.ref (am 0)]) hM.obj rfl (c_X4_firstDistrusted hlt hM hI z (by omega)) sv_X4_105 (by decide) rfl (by first | decide | exact Nat.le_of_ble_eq_true rfl | simp [cat_rf, cat_i, cat_l, cat_r]) dX4_measure_17 (by decide) (fun _ _ h => h.elim) ?_
    rintro v9 w9 ⟨rfl, rfl⟩
    refine j_st (st := [.int (iI (fof (T 4) (inM T) 12 z)), .ref (am 0)]) ?_
    have hfr := fof_r (ref := T 4) (inF := inM T) (fun i a b => (hI.ins a b).1) 12 z (by omega) k1.2 (by omega)
    refine j_iconst X (a := -1) dX4_measure_20 (q := 21) rfl ?_
    refine j_icmp_ne X (tgt := 34) dX4_measure_21 (by decide) (q := 24) rfl (by omega) (by omega) (fun c_21 => ?_) (fun c_21 => ?_)
    · skip
      refine j_iconst X (a := 2) dX4_measure_34 (q := 35) rfl ?_
      refine j_goto X (tgt := 39) dX4_measure_35 (by decide) ?_
      refine j_callV X (As := [.int (iI (2))]) (st := []) hM.obj rfl (c_X4_holds hlt hM hI (2) (by decide)) sv_X4_73 (by decide) rfl (by first | decide | exact Nat.le_of_ble_eq_true rfl | simp [cat_rf, cat_i, cat_l, cat_r]) dX4_measure_39 (by decide) (fun _ _ h => h.elim) ?_
      rintro v9 w9 ⟨rfl, hM9, hF9⟩
      refine j_st (st := [.int (iI (tf (((2) : Int) = 0)))]) ?_
      have hx : msC n nm T z = 2 := by unfold msC; (repeat' split) <;> omega
      rw [← hx] at hM9
      have hb9 := tf_b (((2) : Int) = 0)
      refine j_if_ne X (tgt := 47) dX4_measure_42 (by decide) (q := 45) rfl (by omega) (fun c_42 => ?_) (fun c_42 => ?_)
      · skip
        exact absurd c_42 (by decide)
      · skip
        refine j_iconst X (a := 0) dX4_measure_45 (q := 46) rfl ?_
        exact j_iret X rfl dX4_measure_46 (⟨by rw [hx]; rfl, by rw [hx] at hM9 ⊢; exact hM9, hF9⟩) (by decide) (by decide)
    · skip
      refine j_aload_n X dX4_measure_24 (q := 25) rfl 1 rfl ?_
      refine j_get X (v := .int (iI (T 18 0))) fl_X4_89 hM.obj rfl dX4_measure_25 (q := 28) rfl ?_
      refine j_sipush X (a := 200) (by decide +kernel) dX4_measure_28 (q := 31) rfl ?_
      refine j_icmp_ne X (tgt := 38) dX4_measure_31 (by decide) (q := 34) rfl (by omega) (by omega) (fun c_31 => ?_) (fun c_31 => ?_)
      · skip
        refine j_iconst X (a := 0) dX4_measure_38 (q := 39) rfl ?_
        refine j_callV X (As := [.int (iI (0))]) (st := []) hM.obj rfl (c_X4_holds hlt hM hI (0) (by decide)) sv_X4_73 (by decide) rfl (by first | decide | exact Nat.le_of_ble_eq_true rfl | simp [cat_rf, cat_i, cat_l, cat_r]) dX4_measure_39 (by decide) (fun _ _ h => h.elim) ?_
        rintro v9 w9 ⟨rfl, hM9, hF9⟩
        refine j_st (st := [.int (iI (tf (((0) : Int) = 0)))]) ?_
        have hx : msC n nm T z = 0 := by unfold msC; (repeat' split) <;> omega
        rw [← hx] at hM9
        have hb9 := tf_b (((0) : Int) = 0)
        refine j_if_ne X (tgt := 47) dX4_measure_42 (by decide) (q := 45) rfl (by omega) (fun c_42 => ?_) (fun c_42 => ?_)
        · skip
          refine j_aload_n X dX4_measure_47 (q := 48) rfl 1 rfl ?_
          refine j_dup X (by first | rfl | exact cat_rf _) dX4_measure_48 (q := 49) rfl ?_
          refine j_get X (v := .int (iI (T 3 0))) fl_X4_118 hM9.obj rfl dX4_measure_49 (q := 52) rfl ?_
          refine j_iconst X (a := 1) dX4_measure_52 (q := 53) rfl ?_
          refine j_iadd X dX4_measure_53 (q := 54) rfl ?_
          refine jm_put3 X fp_X4_118 hM9 dX4_measure_54 (q := 57) rfl (fun w_18 hMw_18 hFw_18 => ?_)
          refine j_aload_n X dX4_measure_57 (q := 58) rfl 1 rfl ?_
          refine j_get X (v := .ref (am 19)) fl_X4_53 hMw_18.obj rfl dX4_measure_58 (q := 61) rfl ?_
          refine j_aload_n X dX4_measure_61 (q := 62) rfl 1 rfl ?_
          refine j_get X (v := .int (iI (T 18 0))) fl_X4_89 hMw_18.obj rfl dX4_measure_62 (q := 65) rfl ?_
          refine j_iload_n X dX4_measure_65 (q := 66) rfl 2 rfl ?_
          refine jm_iast X hMw_18 19 (by decide) rfl (by omega) (by show _ < (200 : Int); omega) dX4_measure_66 (q := 67) rfl (fun w_19 hMw_19 hFw_19 => ?_)
          refine j_aload_n X dX4_measure_67 (q := 68) rfl 1 rfl ?_
          refine j_get X (v := .ref (am 20)) fl_X4_56 hMw_19.obj rfl dX4_measure_68 (q := 71) rfl ?_
          refine j_aload_n X dX4_measure_71 (q := 72) rfl 1 rfl ?_
          refine j_get X (v := .int (iI (T 18 0))) fl_X4_89 hMw_19.obj rfl dX4_measure_72 (q := 75) rfl ?_
          refine j_aload_n X dX4_measure_75 (q := 76) rfl 1 rfl ?_
          refine j_get X (v := .int (iI (T 3 0 + 1))) fl_X4_118 hMw_19.obj rfl dX4_measure_76 (q := 79) rfl ?_
          refine jm_iast X hMw_19 20 (by decide) rfl (by omega) (by show _ < (200 : Int); omega) dX4_measure_79 (q := 80) rfl (fun w_20 hMw_20 hFw_20 => ?_)
          refine j_aload_n X dX4_measure_80 (q := 81) rfl 1 rfl ?_
          refine j_dup X (by first | rfl | exact cat_rf _) dX4_measure_81 (q := 82) rfl ?_
          refine j_get X (v := .int (iI (T 18 0))) fl_X4_89 hMw_20.obj rfl dX4_measure_82 (q := 85) rfl ?_
          refine j_iconst X (a := 1) dX4_measure_85 (q := 86) rfl ?_
          refine j_iadd X dX4_measure_86 (q := 87) rfl ?_
          refine jm_put18 X fp_X4_89 hMw_20 dX4_measure_87 (q := 90) rfl (fun w_21 hMw_21 hFw_21 => ?_)
          refine j_aload_n X dX4_measure_90 (q := 91) rfl 1 rfl ?_
          refine j_get X (v := .int (iI (T 18 0 + 1))) fl_X4_89 hMw_21.obj rfl dX4_measure_91 (q := 94) rfl ?_
          refine j_iconst X (a := 1) dX4_measure_94 (q := 95) rfl ?_
          refine j_isub X dX4_measure_95 (q := 96) rfl ?_
          exact j_iret X rfl dX4_measure_96 (⟨by rw [hx, if_pos rfl, show T 18 0 + 1 - 1 = nm by omega], by rw [hx, if_pos rfl]; rw [hx] at hMw_21; rw [msM, ← e18]; exact hMw_21, ((((hF9).tr hFw_18).tr hFw_19).tr hFw_20).tr hFw_21⟩) (by decide) (by decide)
        · skip
          exact absurd c_42 (by decide)
      · skip
        refine j_iconst X (a := 2) dX4_measure_34 (q := 35) rfl ?_
        refine j_goto X (tgt := 39) dX4_measure_35 (by decide) ?_
        refine j_callV X (As := [.int (iI (2))]) (st := []) hM.obj rfl (c_X4_holds hlt hM hI (2) (by decide)) sv_X4_73 (by decide) rfl (by first | decide | exact Nat.le_of_ble_eq_true rfl | simp [cat_rf, cat_i, cat_l, cat_r]) dX4_measure_39 (by decide) (fun _ _ h => h.elim) ?_
        rintro v9 w9 ⟨rfl, hM9, hF9⟩
        refine j_st (st := [.int (iI (tf (((2) : Int) = 0)))]) ?_
        have hx : msC n nm T z = 2 := by unfold msC; (repeat' split) <;> omega
        rw [← hx] at hM9
        have hb9 := tf_b (((2) : Int) = 0)
        refine j_if_ne X (tgt := 47) dX4_measure_42 (by decide) (q := 45) rfl (by omega) (fun c_42 => ?_) (fun c_42 => ?_)
        · skip
          exact absurd c_42 (by decide)
        · skip
          refine j_iconst X (a := 0) dX4_measure_45 (q := 46) rfl ?_
          exact j_iret X rfl dX4_measure_46 (⟨by rw [hx]; rfl, by rw [hx] at hM9 ⊢; exact hM9, hF9⟩) (by decide) (by decide)
  · skip
    have k1 : ¬ (0 ≤ z ∧ z < n) := tf_0 c_8
    refine j_iconst X (a := 1) dX4_measure_11 (q := 12) rfl ?_
    refine j_goto X (tgt := 39) dX4_measure_12 (by decide) ?_
    refine j_callV X (As := [.int (iI (1))]) (st := []) hM.obj rfl (c_X4_holds hlt hM hI (1) (by decide)) sv_X4_73 (by decide) rfl (by first | decide | exact Nat.le_of_ble_eq_true rfl | simp [cat_rf, cat_i, cat_l, cat_r]) dX4_measure_39 (by decide) (fun _ _ h => h.elim) ?_
    rintro v9 w9 ⟨rfl, hM9, hF9⟩
    refine j_st (st := [.int (iI (tf (((1) : Int) = 0)))]) ?_
    have hx : msC n nm T z = 1 := by unfold msC; (repeat' split) <;> omega
    rw [← hx] at hM9
    have hb9 := tf_b (((1) : Int) = 0)
    refine j_if_ne X (tgt := 47) dX4_measure_42 (by decide) (q := 45) rfl (by omega) (fun c_42 => ?_) (fun c_42 => ?_)
    · skip
      exact absurd c_42 (by decide)
    · skip
      refine j_iconst X (a := 0) dX4_measure_45 (q := 46) rfl ?_
      exact j_iret X rfl dX4_measure_46 (⟨by rw [hx]; rfl, by rw [hx] at hM9 ⊢; exact hM9, hF9⟩) (by decide) (by decide)
