set_option maxRecDepth 100000 in
set_option maxHeartbeats 4000000 in
theorem c_X0_init {l : Launch} (hlt : l.stackTraces = false) {D : va_G} {ca : Nat → ClassId} {base : Nat} {w : Wd} (mo dy lf : Int) (rb rs : Option Nat) (a : Nat) (hw : w a = some (.inr (0, [.int 0, .int 0, .int 0, .null, .null, .int 0, .int 0, .int 0, .int 0, .int 0]))) (hb : base ≤ a) : CT l D ca base yX0_init cX0_init 6 none 0 0 0 [.ref (a), .int (iI (mo)), .int (iI (dy)), .int (iI (lf)), va_rf (rb), va_rf (rs)] w (fun v w' => v = none ∧ w' = wu w a (.inr (0, [.int (iI mo), .int (iI dy), .int (iI lf), va_rf rb, va_rf rs, .int 0, .int 0, .int (iI 1000000), .int 0, .int 0]))) (fun _ _ => False) := by
  refine CT.mk hlt (by decide +kernel) (by first | exact Nat.le_of_ble_eq_true rfl | simp [lg_sl, cat_rf, cat_i, cat_l, cat_r]) ?_
  intro p e s m args below meth c X htab
  rw [show lv_args 0 [.ref (a), .int (iI (mo)), .int (iI (dy)), .int (iI (lf)), va_rf (rb), va_rf (rs)] = [(0, .ref (a)), (1, .int (iI (mo))), (2, .int (iI (dy))), (3, .int (iI (lf))), (4, va_rf (rb)), (5, va_rf (rs))] from by first | rfl | simp [lv_args, cat_rf, cat_i, cat_l, cat_r]]
  refine j_aload_n X dX0_init_0 (q := 1) rfl 0 rfl ?_
  refine j_objInit X oi_X0_3.1 oi_X0_3.2.1 oi_X0_3.2.2 (by decide) dX0_init_1 (q := 4) rfl ?_
  refine j_aload_n X dX0_init_4 (q := 5) rfl 0 rfl ?_
  refine j_iload_n X dX0_init_5 (q := 6) rfl 1 rfl ?_
  refine j_putF X fp_X0_9 rfl rfl hw (Nat.le_of_ble_eq_true rfl) rfl rfl hb dX0_init_6 (q := 9) rfl ?_
  refine j_w (w' := (wu w a (.inr (0, [.int (iI (mo)), .int 0, .int 0, .null, .null, .int 0, .int 0, .int 0, .int 0, .int 0])))) (by first | rfl | exact wu_wu) ?_
  refine j_aload_n X dX0_init_9 (q := 10) rfl 0 rfl ?_
  refine j_iload_n X dX0_init_10 (q := 11) rfl 2 rfl ?_
  refine j_putF X fp_X0_15 rfl rfl wu_s (Nat.le_of_ble_eq_true rfl) rfl rfl hb dX0_init_11 (q := 14) rfl ?_
  refine j_w (w' := (wu w a (.inr (0, [.int (iI (mo)), .int (iI (dy)), .int 0, .null, .null, .int 0, .int 0, .int 0, .int 0, .int 0])))) (by first | rfl | exact wu_wu) ?_
  refine j_aload_n X dX0_init_14 (q := 15) rfl 0 rfl ?_
  refine j_iload_n X dX0_init_15 (q := 16) rfl 3 rfl ?_
  refine j_putF X fp_X0_18 rfl rfl wu_s (Nat.le_of_ble_eq_true rfl) rfl rfl hb dX0_init_16 (q := 19) rfl ?_
  refine j_w (w' := (wu w a (.inr (0, [.int (iI (mo)), .int (iI (dy)), .int (iI (lf)), .null, .null, .int 0, .int 0, .int 0, .int 0, .int 0])))) (by first | rfl | exact wu_wu) ?_
  refine j_aload_n X dX0_init_19 (q := 20) rfl 0 rfl ?_
  refine j_aloadq X dX0_init_20 (q := 22) rfl 4 rfl ?_
  refine j_putF X fp_X0_21 rfl rfl wu_s (Nat.le_of_ble_eq_true rfl) (nar_rf _ _) (fit_rf _ _) hb dX0_init_22 (q := 25) rfl ?_
  refine j_w (w' := (wu w a (.inr (0, [.int (iI (mo)), .int (iI (dy)), .int (iI (lf)), va_rf (rb), .null, .int 0, .int 0, .int 0, .int 0, .int 0])))) (by first | rfl | exact wu_wu) ?_
  refine j_aload_n X dX0_init_25 (q := 26) rfl 0 rfl ?_
  refine j_aloadq X dX0_init_26 (q := 28) rfl 5 rfl ?_
  refine j_putF X fp_X0_25 rfl rfl wu_s (Nat.le_of_ble_eq_true rfl) (nar_rf _ _) (fit_rf _ _) hb dX0_init_28 (q := 31) rfl ?_
  refine j_w (w' := (wu w a (.inr (0, [.int (iI (mo)), .int (iI (dy)), .int (iI (lf)), va_rf (rb), va_rf (rs), .int 0, .int 0, .int 0, .int 0, .int 0])))) (by first | rfl | exact wu_wu) ?_
  refine j_aload_n X dX0_init_31 (q := 32) rfl 0 rfl ?_
  refine j_ldc X (a := 1000000) ko_X0_28 rfl dX0_init_32 (q := 34) rfl ?_
  refine j_put X fp_X0_29 wu_s (Nat.le_of_ble_eq_true rfl) rfl rfl hb dX0_init_34 (q := 37) rfl ?_
  refine j_w (w' := (wu w a (.inr (0, [.int (iI (mo)), .int (iI (dy)), .int (iI (lf)), va_rf (rb), va_rf (rs), .int 0, .int 0, .int (iI (1000000)), .int 0, .int 0])))) (by first | rfl | exact wu_wu) ?_
  exact j_vret X rfl dX0_init_37 (⟨rfl, rfl⟩) (by decide) (by decide)

set_option maxRecDepth 100000 in
set_option maxHeartbeats 4000000 in
theorem c_X1_init {l : Launch} (hlt : l.stackTraces = false) {D : va_G} {ca : Nat → ClassId} {base : Nat} {w : Wd} (nu to un iv : Int) (a : Nat) (hw : w a = some (.inr (1, [.int 0, .int 0, .int 0, .int 0, .null, .null, .int 0, .long 0, .long 0]))) (hb : base ≤ a) : CT l D ca base yX1_init cX1_init 5 none 0 0 0 [.ref (a), .int (iI (nu)), .int (iI (to)), .int (iI (un)), .int (iI (iv))] w (fun v w' => v = none ∧ w' = wu w a (.inr (1, [.int (iI nu), .int (iI to), .int (iI un), .int (iI iv), .null, .null, .int 0, .long 0, .long 0]))) (fun _ _ => False) := by
  refine CT.mk hlt (by decide +kernel) (by first | exact Nat.le_of_ble_eq_true rfl | simp [lg_sl, cat_rf, cat_i, cat_l, cat_r]) ?_
  intro p e s m args below meth c X htab
  rw [show lv_args 0 [.ref (a), .int (iI (nu)), .int (iI (to)), .int (iI (un)), .int (iI (iv))] = [(0, .ref (a)), (1, .int (iI (nu))), (2, .int (iI (to))), (3, .int (iI (un))), (4, .int (iI (iv)))] from by first | rfl | simp [lv_args, cat_rf, cat_i, cat_l, cat_r]]
  refine j_aload_n X dX1_init_0 (q := 1) rfl 0 rfl ?_
  refine j_objInit X oi_X1_1.1 oi_X1_1.2.1 oi_X1_1.2.2 (by decide) dX1_init_1 (q := 4) rfl ?_
  refine j_aload_n X dX1_init_4 (q := 5) rfl 0 rfl ?_
  refine j_iload_n X dX1_init_5 (q := 6) rfl 1 rfl ?_
  refine j_putF X fp_X1_7 rfl rfl hw (Nat.le_of_ble_eq_true rfl) rfl rfl hb dX1_init_6 (q := 9) rfl ?_
  refine j_w (w' := (wu w a (.inr (1, [.int (iI (nu)), .int 0, .int 0, .int 0, .null, .null, .int 0, .long 0, .long 0])))) (by first | rfl | exact wu_wu) ?_
  refine j_aload_n X dX1_init_9 (q := 10) rfl 0 rfl ?_
  refine j_iload_n X dX1_init_10 (q := 11) rfl 2 rfl ?_
  refine j_putF X fp_X1_13 rfl rfl wu_s (Nat.le_of_ble_eq_true rfl) rfl rfl hb dX1_init_11 (q := 14) rfl ?_
  refine j_w (w' := (wu w a (.inr (1, [.int (iI (nu)), .int (iI (to)), .int 0, .int 0, .null, .null, .int 0, .long 0, .long 0])))) (by first | rfl | exact wu_wu) ?_
  refine j_aload_n X dX1_init_14 (q := 15) rfl 0 rfl ?_
  refine j_iload_n X dX1_init_15 (q := 16) rfl 3 rfl ?_
  refine j_putF X fp_X1_16 rfl rfl wu_s (Nat.le_of_ble_eq_true rfl) rfl rfl hb dX1_init_16 (q := 19) rfl ?_
  refine j_w (w' := (wu w a (.inr (1, [.int (iI (nu)), .int (iI (to)), .int (iI (un)), .int 0, .null, .null, .int 0, .long 0, .long 0])))) (by first | rfl | exact wu_wu) ?_
  refine j_aload_n X dX1_init_19 (q := 20) rfl 0 rfl ?_
  refine j_iload X dX1_init_20 (q := 22) rfl 4 rfl ?_
  refine j_put X fp_X1_19 wu_s (Nat.le_of_ble_eq_true rfl) rfl rfl hb dX1_init_22 (q := 25) rfl ?_
  refine j_w (w' := (wu w a (.inr (1, [.int (iI (nu)), .int (iI (to)), .int (iI (un)), .int (iI (iv)), .null, .null, .int 0, .long 0, .long 0])))) (by first | rfl | exact wu_wu) ?_
  exact j_vret X rfl dX1_init_25 (⟨rfl, rfl⟩) (by decide) (by decide)

set_option maxRecDepth 100000 in
set_option maxHeartbeats 4000000 in
theorem c_X2_init {l : Launch} (hlt : l.stackTraces = false) {D : va_G} {ca : Nat → ClassId} {base : Nat} {w : Wd} (mo : Int) (rb : Option Nat) (a : Nat) (hw : w a = some (.inr (2, [.int 0, .null, .int 0]))) (hb : base ≤ a) : CT l D ca base yX2_init cX2_init 3 none 0 0 0 [.ref (a), .int (iI (mo)), va_rf (rb)] w (fun v w' => v = none ∧ w' = wu w a (.inr (2, [.int (iI mo), va_rf rb, .int 0]))) (fun _ _ => False) := by
  refine CT.mk hlt (by decide +kernel) (by first | exact Nat.le_of_ble_eq_true rfl | simp [lg_sl, cat_rf, cat_i, cat_l, cat_r]) ?_
  intro p e s m args below meth c X htab
  rw [show lv_args 0 [.ref (a), .int (iI (mo)), va_rf (rb)] = [(0, .ref (a)), (1, .int (iI (mo))), (2, va_rf (rb))] from by first | rfl | simp [lv_args, cat_rf, cat_i, cat_l, cat_r]]
  refine j_aload_n X dX2_init_0 (q := 1) rfl 0 rfl ?_
  refine j_objInit X oi_X2_1.1 oi_X2_1.2.1 oi_X2_1.2.2 (by decide) dX2_init_1 (q := 4) rfl ?_
  refine j_aload_n X dX2_init_4 (q := 5) rfl 0 rfl ?_
  refine j_iload_n X dX2_init_5 (q := 6) rfl 1 rfl ?_
  refine j_putF X fp_X2_7 rfl rfl hw (Nat.le_of_ble_eq_true rfl) rfl rfl hb dX2_init_6 (q := 9) rfl ?_
  refine j_w (w' := (wu w a (.inr (2, [.int (iI (mo)), .null, .int 0])))) (by first | rfl | exact wu_wu) ?_
  refine j_aload_n X dX2_init_9 (q := 10) rfl 0 rfl ?_
  refine j_aloadq_n X dX2_init_10 (q := 11) rfl 2 rfl ?_
  refine j_putF X fp_X2_13 rfl rfl wu_s (Nat.le_of_ble_eq_true rfl) (nar_rf _ _) (fit_rf _ _) hb dX2_init_11 (q := 14) rfl ?_
  refine j_w (w' := (wu w a (.inr (2, [.int (iI (mo)), va_rf (rb), .int 0])))) (by first | rfl | exact wu_wu) ?_
  exact j_vret X rfl dX2_init_14 (⟨rfl, rfl⟩) (by decide) (by decide)

def S0 : St := fun _ _ => 0
set_option maxRecDepth 100000 in
set_option maxHeartbeats 4000000 in
theorem c_X3_init {l : Launch} (hlt : l.stackTraces = false) {D : va_G} {ca : Nat → ClassId} {base : Nat} {w : Wd} (b : Nat) (hw : w b = some (.inr (3, [.null, .null, .null, .int 0, .int 0, .int 0, .int 0, .int 0, .int 0]))) (hb : base ≤ b) : CT l D ca base yX3_init cX3_init 1 none 0 3 724 [.ref (b)] w (fun v w' => v = none ∧ (∃ ad : Nat → Int → Nat, ad 0 0 = b ∧ CW base ca ad 0 0 0 S0 w') ∧ Fr 0 w w') (fun _ _ => False) := by
  refine CT.mk hlt (by decide +kernel) (by first | exact Nat.le_of_ble_eq_true rfl | simp [lg_sl, cat_rf, cat_i, cat_l, cat_r]) ?_
  intro p e s m args below meth c X htab
  rw [show lv_args 0 [.ref (b)] = [(0, .ref (b))] from by first | rfl | simp [lv_args, cat_rf, cat_i, cat_l, cat_r]]
  refine j_aload_n X dX3_init_0 (q := 1) rfl 0 rfl ?_
  refine j_objInit X oi_X3_1.1 oi_X3_1.2.1 oi_X3_1.2.2 (by decide) dX3_init_1 (q := 4) rfl ?_
  refine j_aload_n X dX3_init_4 (q := 5) rfl 0 rfl ?_
  refine j_bipush X (a := 12) (by decide +kernel) dX3_init_5 (q := 7) rfl ?_
  refine j_newq X (N := 12) (t := 2) rfl (by decide) cl_X3_9 (by decide) (by decide) (by decide) dX3_init_7 (q := 10) rfl (fun a1 hb1 hn1 => ?_)
  have hne1 : b ≠ a1 := fun z => by rw [← z, hw] at hn1; cases hn1
  refine j_putF X fp_X3_11 rfl rfl (a := b) ((wu_n hne1).trans hw) (Nat.le_of_ble_eq_true rfl) rfl rfl hb dX3_init_10 (q := 13) rfl ?_
  refine j_w (w' := (wu (wu w a1 (eRow (ca 2) 12 (fun _ => none))) b (.inr (3, [.ref (a1), .null, .null, .int 0, .int 0, .int 0, .int 0, .int 0, .int 0])))) rfl ?_
  refine j_aload_n X dX3_init_13 (q := 14) rfl 0 rfl ?_
  refine j_sipush X (a := 200) (by decide +kernel) dX3_init_14 (q := 17) rfl ?_
  refine j_newq X (N := 200) (t := 3) rfl (by decide) cl_X3_15 (by decide) (by decide) (by decide) dX3_init_17 (q := 20) rfl (fun a2 hb2 hn2 => ?_)
  have hne2 : b ≠ a2 := fun z => by rw [← z, wu_s] at hn2; cases hn2
  refine j_putF X fp_X3_17 rfl rfl (a := b) ((wu_n hne2).trans wu_s) (Nat.le_of_ble_eq_true rfl) rfl rfl hb dX3_init_20 (q := 23) rfl ?_
  refine j_w (w' := (wu (wu (wu (wu w a1 (eRow (ca 2) 12 (fun _ => none))) b (.inr (3, [.ref (a1), .null, .null, .int 0, .int 0, .int 0, .int 0, .int 0, .int 0]))) a2 (eRow (ca 3) 200 (fun _ => none))) b (.inr (3, [.ref (a1), .ref (a2), .null, .int 0, .int 0, .int 0, .int 0, .int 0, .int 0])))) rfl ?_
  refine j_aload_n X dX3_init_23 (q := 24) rfl 0 rfl ?_
  refine j_sipush X (a := 512) (by decide +kernel) dX3_init_24 (q := 27) rfl ?_
  refine j_newq X (N := 512) (t := 4) rfl (by decide) cl_X3_21 (by decide) (by decide) (by decide) dX3_init_27 (q := 30) rfl (fun a3 hb3 hn3 => ?_)
  have hne3 : b ≠ a3 := fun z => by rw [← z, wu_s] at hn3; cases hn3
  refine j_putF X fp_X3_23 rfl rfl (a := b) ((wu_n hne3).trans wu_s) (Nat.le_of_ble_eq_true rfl) rfl rfl hb dX3_init_30 (q := 33) rfl ?_
  refine j_w (w' := (wu (wu (wu (wu (wu (wu w a1 (eRow (ca 2) 12 (fun _ => none))) b (.inr (3, [.ref (a1), .null, .null, .int 0, .int 0, .int 0, .int 0, .int 0, .int 0]))) a2 (eRow (ca 3) 200 (fun _ => none))) b (.inr (3, [.ref (a1), .ref (a2), .null, .int 0, .int 0, .int 0, .int 0, .int 0, .int 0]))) a3 (eRow (ca 4) 512 (fun _ => none))) b (.inr (3, [.ref (a1), .ref (a2), .ref (a3), .int 0, .int 0, .int 0, .int 0, .int 0, .int 0])))) rfl ?_
  have q12 : a1 ≠ a2 := fun z => by rw [← z, wu_n (Ne.symm hne1), wu_s] at hn2; cases hn2
  have q13 : a1 ≠ a3 := fun z => by rw [← z, wu_n (Ne.symm hne1), wu_n q12, wu_n (Ne.symm hne1), wu_s] at hn3; cases hn3
  have q23 : a2 ≠ a3 := fun z => by rw [← z, wu_n (Ne.symm hne2), wu_s] at hn3; cases hn3
  have er : ∀ f : Int → Nat, rw_ f (S0 3 0) = fun _ => none := fun f => by funext j; unfold rw_; exact if_neg (by show ¬ ((j : Int) < 0); omega)
  refine j_vret X rfl dX3_init_33 ⟨rfl, ⟨fun k j => if k = 0 then (if j = 0 then b else if j = 1 then a1 else if j = 2 then a2 else a3) else 0, rfl, ⟨⟨wu_s, ?_, ?_, ?_⟩, ⟨hb, hb1, hb2, hb3⟩, fun i h0 h1 => by omega, fun i h0 h1 => by omega, fun i h0 h1 => by omega, fun i j h0 h1 => by omega, fun i j h0 h1 => by omega, fun i j h0 h1 => by omega⟩⟩, ?_⟩ (by decide) (by decide)
  · show wu _ _ _ a1 = some (eRow (ca 2) 12 (rw_ _ (S0 3 0)))
    rw [er, wu_n (Ne.symm hne1), wu_n q13, wu_n (Ne.symm hne1), wu_n q12, wu_n (Ne.symm hne1), wu_s]
  · show wu _ _ _ a2 = some (eRow (ca 3) 200 (rw_ _ (S0 3 0)))
    rw [er, wu_n (Ne.symm hne2), wu_n q23, wu_n (Ne.symm hne2), wu_s]
  · show wu _ _ _ a3 = some (eRow (ca 4) 512 (rw_ _ (S0 3 0)))
    rw [er, wu_n (Ne.symm hne3), wu_s]
  · exact ((((Fr.new hn1).tr (Fr.set ((wu_n hne1).trans hw) rfl)).tr (Fr.new hn2)).tr (Fr.set ((wu_n hne2).trans wu_s) rfl)).tr ((Fr.new hn3).tr (Fr.set ((wu_n hne3).trans wu_s) rfl))

set_option maxRecDepth 100000 in
set_option maxHeartbeats 4000000 in
theorem c_X3_pass {l : Launch} (hlt : l.stackTraces = false) {D : va_G} {ca : Nat → ClassId} {base : Nat} {ad : Nat → Int → Nat} {n nc nm : Int} {S : St} {w : Wd} (hC : CW base ca ad n nc nm S w) (hI : IC n nc nm S) (z : Int) (hz : -2147483648 ≤ z ∧ z ≤ 2147483647) : CT l D ca base yX3_pass cX3_pass 2 (some .int) 0 1 6 [.ref (ad 0 0), .int (iI (z))] w (fun v w' => (1 ≤ z ∧ z ≤ 999) ∧ v = some (.int (iI (S 7 0 + z))) ∧ CW base ca ad n nc nm (up S 7 0 (S 7 0 + z)) w' ∧ Fr 0 w w') (fun E w' => ¬ (1 ≤ z ∧ z ≤ 999) ∧ E = nIA ∧ w = w') := by
  obtain ⟨hn, hnc, hnm, e3, e4, e5, h6, h7, h8⟩ := hI.top
  refine CT.mk hlt (by decide +kernel) (by first | exact Nat.le_of_ble_eq_true rfl | simp [lg_sl, cat_rf, cat_i, cat_l, cat_r]) ?_
  intro p e s m args below meth c X htab
  rw [show lv_args 0 [.ref (ad 0 0), .int (iI (z))] = [(0, .ref (ad 0 0)), (1, .int (iI (z)))] from by first | rfl | simp [lv_args, cat_rf, cat_i, cat_l, cat_r]]
  refine j_iload_n X dX3_pass_0 (q := 1) rfl 1 rfl ?_
  refine j_iconst X (a := 1) dX3_pass_1 (q := 2) rfl ?_
  refine j_icmp_lt X (tgt := 12) dX3_pass_2 (by decide) (q := 5) rfl (by omega) (by omega) (fun c_2 => ?_) (fun c_2 => ?_)
  · skip
    exact j_throw X htab ts_31_67 dX3_pass_12 dX3_pass_15 dX3_pass_16 dX3_pass_18 dX3_pass_21 (by decide) (by decide) (by decide) (by decide) (⟨by omega, rfl, rfl⟩) (by decide) (by decide)
  · skip
    refine j_iload_n X dX3_pass_5 (q := 6) rfl 1 rfl ?_
    refine j_sipush X (a := 999) (by decide +kernel) dX3_pass_6 (q := 9) rfl ?_
    refine j_icmp_le X (tgt := 22) dX3_pass_9 (by decide) (q := 12) rfl (by omega) (by omega) (fun c_9 => ?_) (fun c_9 => ?_)
    · skip
      refine j_aload_n X dX3_pass_22 (q := 23) rfl 0 rfl ?_
      refine j_dup X (by first | rfl | exact cat_rf _) dX3_pass_23 (q := 24) rfl ?_
      refine j_get X (v := .int (iI (S 7 0))) fl_X3_69 hC.cal rfl dX3_pass_24 (q := 27) rfl ?_
      refine j_iload_n X dX3_pass_27 (q := 28) rfl 1 rfl ?_
      refine j_iadd X dX3_pass_28 (q := 29) rfl ?_
      refine jp_7 X fp_X3_69 hC dX3_pass_29 (q := 32) rfl (fun w1 hC1 hF1 => ?_)
      refine j_aload_n X dX3_pass_32 (q := 33) rfl 0 rfl ?_
      refine j_get X (v := .int (iI (S 7 0 + z))) fl_X3_69 hC1.cal (by show some (Value.int (iI (up S 7 0 (S 7 0 + z) 7 0))) = _; rw [up_s]) dX3_pass_33 (q := 36) rfl ?_
      exact j_iret X rfl dX3_pass_36 (⟨by omega, rfl, hC1, hF1⟩) (by decide) (by decide)
    · skip
      exact j_throw X htab ts_31_67 dX3_pass_12 dX3_pass_15 dX3_pass_16 dX3_pass_18 dX3_pass_21 (by decide) (by decide) (by decide) (by decide) (⟨by omega, rfl, rfl⟩) (by decide) (by decide)

set_option maxRecDepth 100000 in
set_option maxHeartbeats 4000000 in
theorem c_X3_refer {l : Launch} (hlt : l.stackTraces = false) {D : va_G} {ca : Nat → ClassId} {base : Nat} {ad : Nat → Int → Nat} {n nc nm : Int} {S : St} {w : Wd} (hC : CW base ca ad n nc nm S w) (hI : IC n nc nm S) (i r : Int) (hri : -2147483648 ≤ i ∧ i ≤ 2147483647) (hrr : -2147483648 ≤ r ∧ r ≤ 2147483647) : CT l D ca base yX3_refer cX3_refer 6 (some .int) 2 3 18 [.ref (ad 0 0), .int (iI (i)), .int (iI (r))] w (fun v w' => ((0 ≤ i ∧ i < n) ∧ (r = -1 ∨ (0 ≤ r ∧ r < n)) ∧ inCh (S 14) 12 r i = 0) ∧ v = some (.int (iI (S 14 i))) ∧ CW base ca ad n nc nm (up S 14 i r) w' ∧ Fr 0 w w') (fun E w' => ((¬ ((0 ≤ i ∧ i < n) ∧ (r = -1 ∨ (0 ≤ r ∧ r < n))) ∧ E = nIO) ∨ (((0 ≤ i ∧ i < n) ∧ (r = -1 ∨ (0 ≤ r ∧ r < n))) ∧ inCh (S 14) 12 r i ≠ 0 ∧ E = nIS)) ∧ w = w') := by
  obtain ⟨hn, hnc, hnm, e3, e4, e5, h6, h7, h8⟩ := hI.top
  refine CT.mk hlt (by decide +kernel) (by first | exact Nat.le_of_ble_eq_true rfl | simp [lg_sl, cat_rf, cat_i, cat_l, cat_r]) ?_
  intro p e s m args below meth c X htab
  rw [show lv_args 0 [.ref (ad 0 0), .int (iI (i)), .int (iI (r))] = [(0, .ref (ad 0 0)), (1, .int (iI (i))), (2, .int (iI (r)))] from by first | rfl | simp [lv_args, cat_rf, cat_i, cat_l, cat_r]]
  refine j_aload_n X dX3_refer_0 (q := 1) rfl 0 rfl ?_
  refine j_iload_n X dX3_refer_1 (q := 2) rfl 1 rfl ?_
  refine j_callV X (As := [.int (iI (i))]) (st := []) hC.cal rfl (c_X3_known hlt hC hI i hri) sv_X3_54 (by decide) rfl (by first | decide | exact Nat.le_of_ble_eq_true rfl | simp [cat_rf, cat_i, cat_l, cat_r]) dX3_refer_2 (by decide) (fun E w' h => jx_out X htab ⟨Or.inl ⟨by omega, h.2.1⟩, h.2.2⟩ (by decide) (by decide)) ?_
  rintro v9 w9 ⟨k1, rfl, rfl⟩
  refine j_st (st := [va_rf (pt (ad 1) (i))]) ?_
  obtain ⟨f_1_0, f_1_1, f_1_2, f_1_3, f_1_4, f_1_5, f_1_6, f_1_7, f_1_8⟩ := hI.ins k1.1 k1.2
  refine j_astoreq_n X (i := 3) dX3_refer_5 rfl (by decide) (q := 6) rfl (lv' := [(3, va_rf (pt (ad 1) (i))), (0, .ref (ad 0 0)), (1, .int (iI (i))), (2, .int (iI (r)))]) (by first | rfl | simp [cat_rf, cat_i, cat_l, cat_r]) ?_
  refine j_aload_n X dX3_refer_6 (q := 7) rfl 1 rfl ?_
  refine j_iload_n X dX3_refer_7 (q := 8) rfl 3 rfl ?_
  refine j_callV X (As := [.int (iI (r))]) (st := []) hC.cal rfl (c_X3_knownOrNone hlt hC hI r hrr) sv_X3_27 (by decide) rfl (by first | decide | exact Nat.le_of_ble_eq_true rfl | simp [cat_rf, cat_i, cat_l, cat_r]) dX3_refer_8 (by decide) (fun E w' h => jx_out X htab ⟨Or.inl ⟨by omega, h.2.1⟩, h.2.2⟩ (by decide) (by decide)) ?_
  rintro v9 w9 ⟨k2, rfl, rfl⟩
  refine j_st (st := [va_rf (pt (ad 1) (r))]) ?_
  refine j_astoreq X (i := 4) dX3_refer_11 (by decide) (q := 13) rfl (lv' := [(4, va_rf (pt (ad 1) (r))), (3, va_rf (pt (ad 1) (i))), (0, .ref (ad 0 0)), (1, .int (iI (i))), (2, .int (iI (r)))]) (by first | rfl | simp [cat_rf, cat_i, cat_l, cat_r]) ?_
  refine j_aloadq_n X dX3_refer_13 (q := 14) rfl 1 rfl ?_
  refine j_aloadq X dX3_refer_14 (q := 16) rfl 0 rfl ?_
  refine j_callS X (As := [va_rf (pt (ad 1) (i)), va_rf (pt (ad 1) (r))]) (st := [])  (c_X3_isInChain hlt hC hI i r k1 (by omega)) ss_X3_57 (by decide) rfl (by first | decide | exact Nat.le_of_ble_eq_true rfl | simp [cat_rf, cat_i, cat_l, cat_r]) dX3_refer_16 (by decide) (fun _ _ h => h.elim) ?_
  rintro v9 w9 ⟨rfl, rfl⟩
  refine j_st (st := [.int (iI (inCh (S 14) 12 r i))]) ?_
  have hb9 := inCh_b (S 14) 12 r i
  refine j_if_eq X (tgt := 32) dX3_refer_19 (by decide) (q := 22) rfl (by omega) (fun c_19 => ?_) (fun c_19 => ?_)
  · skip
    refine j_aloadq_n X dX3_refer_32 (q := 33) rfl 1 rfl ?_
    refine j_getp X (v := va_rf (pt (ad 1) (S 14 i))) fl_X3_50 k1.1 (hC.ins k1.1 k1.2) rfl dX3_refer_33 (q := 36) rfl ?_
    refine j_callS X (As := [va_rf (pt (ad 1) (S 14 i))]) (st := [])  (c_X3_numberOf hlt hC hI (S 14 i) (by omega)) ss_X3_63 (by decide) rfl (by first | decide | exact Nat.le_of_ble_eq_true rfl | simp [cat_rf, cat_i, cat_l, cat_r]) dX3_refer_36 (by decide) (fun _ _ h => h.elim) ?_
    rintro v9 w9 ⟨rfl, rfl⟩
    refine j_st (st := [.int (iI (S 14 i))]) ?_
    refine j_istore X (i := 5) dX3_refer_39 (by decide) (q := 41) rfl (lv' := [(5, .int (iI (S 14 i))), (4, va_rf (pt (ad 1) (r))), (3, va_rf (pt (ad 1) (i))), (0, .ref (ad 0 0)), (1, .int (iI (i))), (2, .int (iI (r)))]) (by first | rfl | simp [cat_rf, cat_i, cat_l, cat_r]) ?_
    refine j_aloadq_n X dX3_refer_41 (q := 42) rfl 2 rfl ?_
    refine j_aloadq X dX3_refer_42 (q := 44) rfl 1 rfl ?_
    refine jp_14 X fp_X3_50 hC k1.1 k1.2 dX3_refer_44 (q := 47) rfl (fun w1 hC1 hF1 => ?_)
    refine j_iload X dX3_refer_47 (q := 49) rfl 0 rfl ?_
    exact j_iret X rfl dX3_refer_49 (⟨⟨k1, k2, c_19⟩, rfl, hC1, hF1⟩) (by decide) (by decide)
  · skip
    exact j_throw X htab ts_42_61 dX3_refer_22 dX3_refer_25 dX3_refer_26 dX3_refer_28 dX3_refer_31 (by decide) (by decide) (by decide) (by decide) (⟨Or.inr ⟨⟨k1, k2⟩, c_19, rfl⟩, rfl⟩) (by decide) (by decide)

def tlF (n t u v r : Int) : Nat → Int := fun g => if g = 10 then n else if g = 11 then t else if g = 12 then u else if g = 13 then v else if g = 14 then r else if g = 15 then -1 else 0
def tlS (S : St) (n t u v r : Int) : St := up (up (nwI S n (tlF n t u v (-1))) 14 n r) 3 0 (n + 1)
set_option maxRecDepth 100000 in
set_option maxHeartbeats 4000000 in
theorem c_X3_tell {l : Launch} (hlt : l.stackTraces = false) {D : va_G} {ca : Nat → ClassId} {base : Nat} {ad : Nat → Int → Nat} {n nc nm : Int} {S : St} {w : Wd} (hC : CW base ca ad n nc nm S w) (hI : IC n nc nm S) (r t u v : Int) (hrr : -2147483648 ≤ r ∧ r ≤ 2147483647) (ht : -2147483648 ≤ t ∧ t ≤ 2147483647) (hu : -2147483648 ≤ u ∧ u ≤ 2147483647) (hv : -2147483648 ≤ v ∧ v ≤ 2147483647) : CT l D ca base yX3_tell cX3_tell 8 (some .int) 2 3 24 [.ref (ad 0 0), .int (iI (r)), .int (iI (t)), .int (iI (u)), .int (iI (v))] w (fun o w' => ((r = -1 ∨ (0 ≤ r ∧ r < n)) ∧ ((1 ≤ t ∧ t ≤ 9999) ∧ (0 ≤ u ∧ u ≤ 999) ∧ (1 ≤ v ∧ v ≤ 999)) ∧ n < 12) ∧ o = some (.int (iI n)) ∧ (∃ ad', CW base ca ad' (n + 1) nc nm (tlS S n t u v r) w' ∧ ad' 0 0 = ad 0 0) ∧ Fr 0 w w') (fun E w' => ((¬ (r = -1 ∨ (0 ≤ r ∧ r < n)) ∧ E = nIO) ∨ ((r = -1 ∨ (0 ≤ r ∧ r < n)) ∧ ¬ ((1 ≤ t ∧ t ≤ 9999) ∧ (0 ≤ u ∧ u ≤ 999) ∧ (1 ≤ v ∧ v ≤ 999)) ∧ E = nIA) ∨ ((r = -1 ∨ (0 ≤ r ∧ r < n)) ∧ ((1 ≤ t ∧ t ≤ 9999) ∧ (0 ≤ u ∧ u ≤ 999) ∧ (1 ≤ v ∧ v ≤ 999)) ∧ ¬ n < 12 ∧ E = nIS)) ∧ w = w') := by
  obtain ⟨hn, hnc, hnm, e3, e4, e5, h6, h7, h8⟩ := hI.top
  refine CT.mk hlt (by decide +kernel) (by first | exact Nat.le_of_ble_eq_true rfl | simp [lg_sl, cat_rf, cat_i, cat_l, cat_r]) ?_
  intro p e s m args below meth c X htab
  rw [show lv_args 0 [.ref (ad 0 0), .int (iI (r)), .int (iI (t)), .int (iI (u)), .int (iI (v))] = [(0, .ref (ad 0 0)), (1, .int (iI (r))), (2, .int (iI (t))), (3, .int (iI (u))), (4, .int (iI (v)))] from by first | rfl | simp [lv_args, cat_rf, cat_i, cat_l, cat_r]]
  refine j_aload_n X dX3_tell_0 (q := 1) rfl 0 rfl ?_
  refine j_iload_n X dX3_tell_1 (q := 2) rfl 1 rfl ?_
  refine j_callV X (As := [.int (iI (r))]) (st := []) hC.cal rfl (c_X3_knownOrNone hlt hC hI r hrr) sv_X3_27 (by decide) rfl (by first | decide | exact Nat.le_of_ble_eq_true rfl | simp [cat_rf, cat_i, cat_l, cat_r]) dX3_tell_2 (by decide) (fun E w' h => jx_out X htab ⟨Or.inl ⟨h.1, h.2.1⟩, h.2.2⟩ (by decide) (by decide)) ?_
  rintro v9 w9 ⟨k2, rfl, rfl⟩
  refine j_st (st := [va_rf (pt (ad 1) (r))]) ?_
  refine j_astoreq X (i := 5) dX3_tell_5 (by decide) (q := 7) rfl (lv' := [(5, va_rf (pt (ad 1) (r))), (0, .ref (ad 0 0)), (1, .int (iI (r))), (2, .int (iI (t))), (3, .int (iI (u))), (4, .int (iI (v)))]) (by first | rfl | simp [cat_rf, cat_i, cat_l, cat_r]) ?_
  refine j_iload_n X dX3_tell_7 (q := 8) rfl 3 rfl ?_
  refine j_iconst X (a := 1) dX3_tell_8 (q := 9) rfl ?_
  refine j_icmp_lt X (tgt := 44) dX3_tell_9 (by decide) (q := 12) rfl (by omega) (by omega) (fun c_9 => ?_) (fun c_9 => ?_)
  · skip
    exact j_throw X htab ts_31_33 dX3_tell_44 dX3_tell_47 dX3_tell_48 dX3_tell_50 dX3_tell_53 (by decide) (by decide) (by decide) (by decide) (⟨Or.inr (Or.inl ⟨k2, by omega, rfl⟩), rfl⟩) (by decide) (by decide)
  · skip
    refine j_iload_n X dX3_tell_12 (q := 13) rfl 3 rfl ?_
    refine j_sipush X (a := 9999) (by decide +kernel) dX3_tell_13 (q := 16) rfl ?_
    refine j_icmp_gt X (tgt := 44) dX3_tell_16 (by decide) (q := 19) rfl (by omega) (by omega) (fun c_16 => ?_) (fun c_16 => ?_)
    · skip
      exact j_throw X htab ts_31_33 dX3_tell_44 dX3_tell_47 dX3_tell_48 dX3_tell_50 dX3_tell_53 (by decide) (by decide) (by decide) (by decide) (⟨Or.inr (Or.inl ⟨k2, by omega, rfl⟩), rfl⟩) (by decide) (by decide)
    · skip
      refine j_iload_n X dX3_tell_19 (q := 20) rfl 4 rfl ?_
      refine j_if_lt X (tgt := 44) dX3_tell_20 (by decide) (q := 23) rfl (by omega) (fun c_20 => ?_) (fun c_20 => ?_)
      · skip
        exact j_throw X htab ts_31_33 dX3_tell_44 dX3_tell_47 dX3_tell_48 dX3_tell_50 dX3_tell_53 (by decide) (by decide) (by decide) (by decide) (⟨Or.inr (Or.inl ⟨k2, by omega, rfl⟩), rfl⟩) (by decide) (by decide)
      · skip
        refine j_iload_n X dX3_tell_23 (q := 24) rfl 4 rfl ?_
        refine j_sipush X (a := 999) (by decide +kernel) dX3_tell_24 (q := 27) rfl ?_
        refine j_icmp_gt X (tgt := 44) dX3_tell_27 (by decide) (q := 30) rfl (by omega) (by omega) (fun c_27 => ?_) (fun c_27 => ?_)
        · skip
          exact j_throw X htab ts_31_33 dX3_tell_44 dX3_tell_47 dX3_tell_48 dX3_tell_50 dX3_tell_53 (by decide) (by decide) (by decide) (by decide) (⟨Or.inr (Or.inl ⟨k2, by omega, rfl⟩), rfl⟩) (by decide) (by decide)
        · skip
          refine j_iload X dX3_tell_30 (q := 32) rfl 5 rfl ?_
          refine j_iconst X (a := 1) dX3_tell_32 (q := 33) rfl ?_
          refine j_icmp_lt X (tgt := 44) dX3_tell_33 (by decide) (q := 36) rfl (by omega) (by omega) (fun c_33 => ?_) (fun c_33 => ?_)
          · skip
            exact j_throw X htab ts_31_33 dX3_tell_44 dX3_tell_47 dX3_tell_48 dX3_tell_50 dX3_tell_53 (by decide) (by decide) (by decide) (by decide) (⟨Or.inr (Or.inl ⟨k2, by omega, rfl⟩), rfl⟩) (by decide) (by decide)
          · skip
            refine j_iload X dX3_tell_36 (q := 38) rfl 5 rfl ?_
            refine j_sipush X (a := 999) (by decide +kernel) dX3_tell_38 (q := 41) rfl ?_
            refine j_icmp_le X (tgt := 54) dX3_tell_41 (by decide) (q := 44) rfl (by omega) (by omega) (fun c_41 => ?_) (fun c_41 => ?_)
            · skip
              refine j_aload_n X dX3_tell_54 (q := 55) rfl 1 rfl ?_
              refine j_get X (v := .int (iI (S 3 0))) fl_X3_38 hC.cal rfl dX3_tell_55 (q := 58) rfl ?_
              refine j_istore X (i := 6) dX3_tell_58 (by decide) (q := 60) rfl (lv' := [(6, .int (iI (S 3 0))), (5, va_rf (pt (ad 1) (r))), (0, .ref (ad 0 0)), (1, .int (iI (r))), (2, .int (iI (t))), (3, .int (iI (u))), (4, .int (iI (v)))]) (by first | rfl | simp [cat_rf, cat_i, cat_l, cat_r]) ?_
              refine j_iload X dX3_tell_60 (q := 62) rfl 0 rfl ?_
              refine j_if_lt X (tgt := 75) dX3_tell_62 (by decide) (q := 65) rfl (by omega) (fun c_62 => ?_) (fun c_62 => ?_)
              · skip
                exact j_throw X htab ts_42_44 dX3_tell_75 dX3_tell_78 dX3_tell_79 dX3_tell_81 dX3_tell_84 (by decide) (by decide) (by decide) (by decide) (⟨Or.inr (Or.inr ⟨k2, by omega, by omega, rfl⟩), rfl⟩) (by decide) (by decide)
              · skip
                refine j_iload X dX3_tell_65 (q := 67) rfl 0 rfl ?_
                refine j_aload_n X dX3_tell_67 (q := 68) rfl 2 rfl ?_
                refine j_get X (v := .ref (ad 0 1)) fl_X3_11 hC.cal rfl dX3_tell_68 (q := 71) rfl ?_
                refine j_alen X (t := 2) (N := 12) rfl hC.told rfl dX3_tell_71 (q := 72) rfl ?_
                refine j_icmp_lt X (tgt := 85) dX3_tell_72 (by decide) (q := 75) rfl (by omega) (by omega) (fun c_72 => ?_) (fun c_72 => ?_)
                · skip
                  refine j_new X nw_X3_9 (by decide) (by decide) dX3_tell_85 (q := 88) rfl (fun a hb hn0 => ?_)
                  refine j_dup X (by first | rfl | exact cat_rf _) dX3_tell_88 (q := 89) rfl ?_
                  refine j_iload X dX3_tell_89 (q := 91) rfl 0 rfl ?_
                  refine j_iload_n X dX3_tell_91 (q := 92) rfl 4 rfl ?_
                  refine j_iload_n X dX3_tell_92 (q := 93) rfl 5 rfl ?_
                  refine j_iload X dX3_tell_93 (q := 95) rfl 6 rfl ?_
                  have en : S 3 0 = n := e3
                  refine j_callI X (As := [.int (iI (S 3 0)), .int (iI t), .int (iI u), .int (iI v)]) (st := [.ref (a)]) (c_X1_init hlt (S 3 0) t u v a wu_s hb) si_X3_47 (by decide) rfl (by first | decide | simp [cat_rf, cat_i, cat_l, cat_r]) dX3_tell_95 (by decide) (fun _ _ h => h.elim) ?_
                  rintro v9 w9 ⟨rfl, rfl⟩
                  have hC1 := CW.newI hC hI hn0 hb (tlF n t u v (-1))
                  have hF1 : Fr 0 w (wu w a (cIns (adn ad 1 n a) (nwI S n (tlF n t u v (-1))) n)) := Fr.new hn0
                  refine j_w (w' := wu w a (cIns (adn ad 1 n a) (nwI S n (tlF n t u v (-1))) n)) (by rw [wu_wu, e3]; simp [cIns, nwI, tlF, pt, va_rf]; rfl) ?_
                  generalize (wu w a (cIns (adn ad 1 n a) (nwI S n (tlF n t u v (-1))) n)) = w1 at hC1 hF1 ⊢
                  rw [e3]
                  refine j_astore X (i := 7) dX3_tell_98 (by decide) (q := 100) rfl (lv' := [(7, .ref (a)), (6, .int (iI (n))), (5, va_rf (pt (ad 1) (r))), (0, .ref (ad 0 0)), (1, .int (iI (r))), (2, .int (iI (t))), (3, .int (iI (u))), (4, .int (iI (v)))]) (by first | rfl | simp [cat_rf, cat_i, cat_l, cat_r]) ?_
                  refine j_aload X dX3_tell_100 (q := 102) rfl 0 rfl ?_
                  refine j_aloadq X dX3_tell_102 (q := 104) rfl 2 rfl ?_
                  rw [show (va_rf (pt (ad 1) r)) = va_rf (pt (adn ad 1 n a 1) r) from by rw [pt_adn (by omega)]]
                  refine j_st (st := va_rf (pt (adn ad 1 n a 1) r) :: .ref a :: []) ?_
                  rw [show (Value.ref a : Value) = va_rf (pt (adn ad 1 n a 1) n) from by rw [pt_s (by omega), adn_s]; rfl]
                  refine jp_14 X fp_X3_50 hC1 (by omega) (by omega) dX3_tell_104 (q := 107) rfl (fun w2 hC2 hF2 => ?_)
                  rw [show va_rf (pt (adn ad 1 n a 1) n) = (Value.ref a : Value) from by rw [pt_s (by omega), adn_s]; rfl]
                  refine j_aload_n X dX3_tell_107 (q := 108) rfl 3 rfl ?_
                  refine j_get X (v := .ref (ad 0 1)) fl_X3_11 (a := ad 0 0) hC2.cal rfl dX3_tell_108 (q := 111) rfl ?_
                  refine j_iload X dX3_tell_111 (q := 113) rfl 1 rfl ?_
                  refine j_aload X dX3_tell_113 (q := 115) rfl 0 rfl ?_
                  have e3' : up (nwI S n (tlF n t u v (-1))) 14 n r 3 0 = n := by show nwI S n _ 3 0 = n; unfold nwI; rw [if_neg (by omega)]; exact e3
                  refine ja_3 X (ad := adn ad 1 n a) hC2 e3' (by omega) (by omega) (by omega) adn_s.symm dX3_tell_115 (q := 116) rfl ?_
                  refine j_aload_n X dX3_tell_116 (q := 117) rfl 3 rfl ?_
                  refine j_iload X dX3_tell_117 (q := 119) rfl 1 rfl ?_
                  refine j_iconst X (a := 1) dX3_tell_119 (q := 120) rfl ?_
                  refine j_iadd X dX3_tell_120 (q := 121) rfl ?_
                  refine jb_3 X (ad := adn ad 1 n a) fp_X3_38 hC2 e3' (by omega) dX3_tell_121 (q := 124) rfl (fun w3 hC3 hF3 => ?_)
                  refine j_iload X dX3_tell_124 (q := 126) rfl 1 rfl ?_
                  exact j_iret X rfl dX3_tell_126 (⟨⟨k2, by omega, by omega⟩, rfl, ⟨adn ad 1 n a, hC3, rfl⟩, (hF1.tr hF2).tr hF3⟩) (by decide) (by decide)
                · skip
                  exact j_throw X htab ts_42_44 dX3_tell_75 dX3_tell_78 dX3_tell_79 dX3_tell_81 dX3_tell_84 (by decide) (by decide) (by decide) (by decide) (⟨Or.inr (Or.inr ⟨k2, by omega, by omega, rfl⟩), rfl⟩) (by decide) (by decide)
            · skip
              exact j_throw X htab ts_31_33 dX3_tell_44 dX3_tell_47 dX3_tell_48 dX3_tell_50 dX3_tell_53 (by decide) (by decide) (by decide) (by decide) (⟨Or.inr (Or.inl ⟨k2, by omega, rfl⟩), rfl⟩) (by decide) (by decide)

def meF (m b : Int) : Nat → Int := fun g => if g = 30 then m else if g = 31 then b else 0
def meS (S : St) (nm i : Int) : St := up (up (nwM S nm (meF (S 8 0) (S 15 i))) 4 0 (nm + 1)) 8 0 (S 8 0 + 1)
set_option maxRecDepth 100000 in
set_option maxHeartbeats 4000000 in
theorem c_X3_measure {l : Launch} (hlt : l.stackTraces = false) {D : va_G} {ca : Nat → ClassId} {base : Nat} {ad : Nat → Int → Nat} {n nc nm : Int} {S : St} {w : Wd} (hC : CW base ca ad n nc nm S w) (hI : IC n nc nm S) (z : Int) (hz : -2147483648 ≤ z ∧ z ≤ 2147483647) : CT l D ca base yX3_measure cX3_measure 4 (some .int) 4 3 24 [.ref (ad 0 0), .int (iI (z))] w (fun o w' => ((0 ≤ z ∧ z < n) ∧ fof (S 14) (inF S) 12 z = -1 ∧ nm < 200) ∧ o = some (.int (iI nm)) ∧ (∃ ad', CW base ca ad' n nc (nm + 1) (meS S nm z) w' ∧ ad' 0 0 = ad 0 0) ∧ Fr 0 w w') (fun E w' => ((¬ (0 ≤ z ∧ z < n) ∧ E = nIO) ∨ ((0 ≤ z ∧ z < n) ∧ ¬ (fof (S 14) (inF S) 12 z = -1 ∧ nm < 200) ∧ E = nIS)) ∧ w = w') := by
  obtain ⟨hn, hnc, hnm, e3, e4, e5, h6, h7, h8⟩ := hI.top
  refine CT.mk hlt (by decide +kernel) (by first | exact Nat.le_of_ble_eq_true rfl | simp [lg_sl, cat_rf, cat_i, cat_l, cat_r]) ?_
  intro p e s m args below meth c X htab
  rw [show lv_args 0 [.ref (ad 0 0), .int (iI (z))] = [(0, .ref (ad 0 0)), (1, .int (iI (z)))] from by first | rfl | simp [lv_args, cat_rf, cat_i, cat_l, cat_r]]
  refine j_aload_n X dX3_measure_0 (q := 1) rfl 0 rfl ?_
  refine j_iload_n X dX3_measure_1 (q := 2) rfl 1 rfl ?_
  refine j_callV X (As := [.int (iI (z))]) (st := []) hC.cal rfl (c_X3_known hlt hC hI z hz) sv_X3_54 (by decide) rfl (by first | decide | exact Nat.le_of_ble_eq_true rfl | simp [cat_rf, cat_i, cat_l, cat_r]) dX3_measure_2 (by decide) (fun E w' h => jx_out X htab ⟨Or.inl ⟨h.1, h.2.1⟩, h.2.2⟩ (by decide) (by decide)) ?_
  rintro v9 w9 ⟨k1, rfl, rfl⟩
  refine j_st (st := [va_rf (pt (ad 1) (z))]) ?_
  obtain ⟨f_2_0, f_2_1, f_2_2, f_2_3, f_2_4, f_2_5, f_2_6, f_2_7, f_2_8⟩ := hI.ins k1.1 k1.2
  refine j_astoreq_n X (i := 2) dX3_measure_5 rfl (by decide) (q := 6) rfl (lv' := [(2, va_rf (pt (ad 1) (z))), (0, .ref (ad 0 0)), (1, .int (iI (z)))]) (by first | rfl | simp [cat_rf, cat_i, cat_l, cat_r]) ?_
  refine j_aload_n X dX3_measure_6 (q := 7) rfl 1 rfl ?_
  refine j_get X (v := .int (iI (S 4 0))) fl_X3_113 hC.cal rfl dX3_measure_7 (q := 10) rfl ?_
  refine j_istore_n X (i := 3) dX3_measure_10 rfl (by decide) (q := 11) rfl (lv' := [(3, .int (iI (S 4 0))), (2, va_rf (pt (ad 1) (z))), (0, .ref (ad 0 0)), (1, .int (iI (z)))]) (by first | rfl | simp [cat_rf, cat_i, cat_l, cat_r]) ?_
  refine j_aload_n X dX3_measure_11 (q := 12) rfl 2 rfl ?_
  refine j_aloadq_n X dX3_measure_12 (q := 13) rfl 1 rfl ?_
  have hf9 := fof_r (inF := inF S) (fun i a b => (hI.ins a b).2.2.2.2.1) 12 z (by omega) k1.2 hn.1
  refine j_callV X (As := [va_rf (pt (ad 1) (z))]) (st := []) hC.cal rfl (c_X3_firstOutOfForce hlt hC hI z (by omega)) sv_X3_86 (by decide) rfl (by first | decide | exact Nat.le_of_ble_eq_true rfl | simp [cat_rf, cat_i, cat_l, cat_r]) dX3_measure_13 (by decide) (fun _ _ h => h.elim) ?_
  rintro v9 w9 ⟨rfl, rfl⟩
  refine j_st (st := [va_rf (pt (ad 1) (fof (S 14) (inF S) 12 z))]) ?_
  refine j_ifnonnullp X (tgt := 32) dX3_measure_16 (by decide) (q := 19) rfl (fun c_16 => ?_) (fun c_16 => ?_)
  · skip
    exact j_throw X htab ts_42_116 dX3_measure_32 dX3_measure_35 dX3_measure_36 dX3_measure_38 dX3_measure_41 (by decide) (by decide) (by decide) (by decide) (⟨Or.inr ⟨k1, by omega, rfl⟩, rfl⟩) (by decide) (by decide)
  · skip
    refine j_iload_n X dX3_measure_19 (q := 20) rfl 0 rfl ?_
    refine j_if_lt X (tgt := 32) dX3_measure_20 (by decide) (q := 23) rfl (by omega) (fun c_20 => ?_) (fun c_20 => ?_)
    · skip
      exact j_throw X htab ts_42_116 dX3_measure_32 dX3_measure_35 dX3_measure_36 dX3_measure_38 dX3_measure_41 (by decide) (by decide) (by decide) (by decide) (⟨Or.inr ⟨k1, by omega, rfl⟩, rfl⟩) (by decide) (by decide)
    · skip
      refine j_iload_n X dX3_measure_23 (q := 24) rfl 0 rfl ?_
      refine j_aload_n X dX3_measure_24 (q := 25) rfl 2 rfl ?_
      refine j_get X (v := .ref (ad 0 2)) fl_X3_17 hC.cal rfl dX3_measure_25 (q := 28) rfl ?_
      refine j_alen X (t := 3) (N := 200) rfl hC.made rfl dX3_measure_28 (q := 29) rfl ?_
      refine j_icmp_lt X (tgt := 42) dX3_measure_29 (by decide) (q := 32) rfl (by omega) (by omega) (fun c_29 => ?_) (fun c_29 => ?_)
      · skip
        refine j_aload_n X dX3_measure_42 (q := 43) rfl 2 rfl ?_
        refine j_get X (v := .ref (ad 0 2)) fl_X3_17 hC.cal rfl dX3_measure_43 (q := 46) rfl ?_
        refine j_iload_n X dX3_measure_46 (q := 47) rfl 0 rfl ?_
        have en : S 4 0 = nm := e4
        refine j_new X nw_X3_15 (by decide) (by decide) dX3_measure_47 (q := 50) rfl (fun a hb hn0 => ?_)
        have hF0 : Fr 0 w (wu w a (.inr (2, [.int 0, .null, .int 0]))) := Fr.new hn0
        have hw0 : wu w a (.inr (2, [.int 0, .null, .int 0])) a = some _ := wu_s
        have hca : wu w a (.inr (2, [.int 0, .null, .int 0])) (ad 0 0) = some (cCal ad S 0) := (wu_n (fun z => by rw [← z, hC.cal] at hn0; cases hn0)).trans hC.cal
        have hci : wu w a (.inr (2, [.int 0, .null, .int 0])) (ad 1 z) = some (cIns ad S z) := (wu_n (fun q => by rw [← q, hC.ins k1.1 k1.2] at hn0; cases hn0)).trans (hC.ins k1.1 k1.2)
        refine j_dup X (by first | rfl | exact cat_rf _) dX3_measure_50 (q := 51) rfl ?_
        refine j_aload_n X dX3_measure_51 (q := 52) rfl 2 rfl ?_
        refine j_get X (v := .int (iI (S 8 0))) fl_X3_99 hca rfl dX3_measure_52 (q := 55) rfl ?_
        refine j_aloadq_n X dX3_measure_55 (q := 56) rfl 1 rfl ?_
        refine j_getp X (v := va_rf (pt (ad 2) (S 15 z))) fl_X3_95 k1.1 hci rfl dX3_measure_56 (q := 59) rfl ?_
        refine j_callI X (As := [.int (iI (S 8 0)), va_rf (pt (ad 2) (S 15 z))]) (st := [.ref (a), .int (iI (S 4 0)), .ref (ad 0 2)]) (c_X2_init hlt (S 8 0) (pt (ad 2) (S 15 z)) a wu_s hb) si_X3_118 (by decide) rfl (by first | decide | simp [cat_rf, cat_i, cat_l, cat_r]) dX3_measure_59 (by decide) (fun _ _ h => h.elim) ?_
        rintro v9 w9 ⟨rfl, rfl⟩
        have hC1 := CW.newM hC hI hn0 hb (meF (S 8 0) (S 15 z))
        have hF1 : Fr 0 w (wu w a (cMea (adn ad 3 nm a) (nwM S nm (meF (S 8 0) (S 15 z))) nm)) := Fr.new hn0
        refine j_w (w' := wu w a (cMea (adn ad 3 nm a) (nwM S nm (meF (S 8 0) (S 15 z))) nm)) (by rw [wu_wu]; simp [cMea, nwM, meF, adn]; first | rfl | done) ?_
        generalize (wu w a (cMea (adn ad 3 nm a) (nwM S nm (meF (S 8 0) (S 15 z))) nm)) = w1 at hC1 hF1 ⊢
        rw [e4]
        have e4m : nwM S nm (meF (S 8 0) (S 15 z)) 4 0 = nm := by unfold nwM; rw [if_neg (by omega)]; exact e4
        refine ja_4 X (ad := adn ad 3 nm a) hC1 e4m (by omega) (by omega) (by omega) adn_s.symm dX3_measure_62 (q := 63) rfl ?_
        refine j_aload_n X dX3_measure_63 (q := 64) rfl 2 rfl ?_
        refine j_iload_n X dX3_measure_64 (q := 65) rfl 0 rfl ?_
        refine j_iconst X (a := 1) dX3_measure_65 (q := 66) rfl ?_
        refine j_iadd X dX3_measure_66 (q := 67) rfl ?_
        refine jb_4 X (ad := adn ad 3 nm a) fp_X3_113 hC1 e4m (by omega) dX3_measure_67 (q := 70) rfl (fun w3 hC3 hF3 => ?_)
        refine j_aload_n X dX3_measure_70 (q := 71) rfl 2 rfl ?_
        refine j_dup X (by first | rfl | exact cat_rf _) dX3_measure_71 (q := 72) rfl ?_
        have e8m : up (nwM S nm (meF (S 8 0) (S 15 z))) 4 0 (nm + 1) 8 0 = S 8 0 := by show nwM S nm _ 8 0 = S 8 0; unfold nwM; rw [if_neg (by omega)]
        refine j_get X (v := .int (iI (S 8 0))) fl_X3_99 (a := ad 0 0) hC3.cal (by show some (Value.int (iI (up (nwM S nm (meF (S 8 0) (S 15 z))) 4 0 (nm + 1) 8 0))) = _; rw [e8m]) dX3_measure_72 (q := 75) rfl ?_
        refine j_iconst X (a := 1) dX3_measure_75 (q := 76) rfl ?_
        refine j_iadd X dX3_measure_76 (q := 77) rfl ?_
        refine jp_8 X fp_X3_99 (ad := adn ad 3 nm a) hC3 dX3_measure_77 (q := 80) rfl (fun w4 hC4 hF4 => ?_)
        refine j_iload_n X dX3_measure_80 (q := 81) rfl 0 rfl ?_
        exact j_iret X rfl dX3_measure_81 (⟨⟨k1, by omega, by omega⟩, rfl, ⟨adn ad 3 nm a, hC4, rfl⟩, (hF1.tr hF3).tr hF4⟩) (by decide) (by decide)
      · skip
        exact j_throw X htab ts_42_116 dX3_measure_32 dX3_measure_35 dX3_measure_36 dX3_measure_38 dX3_measure_41 (by decide) (by decide) (by decide) (by decide) (⟨Or.inr ⟨k1, by omega, rfl⟩, rfl⟩) (by decide) (by decide)
