def akC (n z : Int) : Int := if 0 ≤ z ∧ z < n then 0 else 1
def rfK (n : Int) (S : St) (z r : Int) : Int := if (0 ≤ z ∧ z < n) ∧ (r = -1 ∨ (0 ≤ r ∧ r < n)) then (if inCh (S 14) 12 r z = 0 then 0 else 2) else 1
def kaK (n : Int) (S : St) (z x lf : Int) : Int := if 0 ≤ z ∧ z < n then (if (-99999 ≤ x ∧ x ≤ 99999) ∧ (-99999 ≤ lf ∧ lf ≤ 99999) then (if fof (S 14) (inF S) 12 (S 14 z) = -1 then 0 else 3) else 2) else 1
def msK (n nm : Int) (S : St) (z : Int) : Int := if 0 ≤ z ∧ z < n then (if fof (S 14) (inF S) 12 z = -1 ∧ nm < 200 then 0 else 2) else 1
def exK (n : Int) (S : St) (z d : Int) : Int := if 0 ≤ z ∧ z < n then (if 0 ≤ d ∧ d ≤ 9999 then (if 0 ≤ S 15 z then 0 else 3) else 2) else 1
set_option maxRecDepth 100000 in
set_option maxHeartbeats 4000000 in
theorem c_L_intervalOf {l : Launch} (hlt : l.stackTraces = false) {D : va_G} {ca : Nat → ClassId} {base : Nat} {ad : Nat → Int → Nat} {n nc nm : Int} {S : St} {w : Wd} (hC : CW base ca ad n nc nm S w) (hI : IC n nc nm S) (o : Nat) (f0 : Nat → Int64) (ho : w o = some (eLong ca f0)) (hbo : base ≤ o) (z : Int) (hzi : -2147483648 ≤ z ∧ z ≤ 2147483647)  : CTW l D ca base yL_intervalOf cL_intervalOf 4 (some .int) [(0, 9, 12, 13)] 3 1 6 [.ref (ad 0 0), .int (iI (z)), .ref (o)] w (fun v w' => v = some (.int (iI (akC n z))) ∧ (akC n z = 0 → ∃ f, f 0 = (iI (S 13 z)).toInt64 ∧ w' = wu w o (eLong ca f)) ∧ (akC n z ≠ 0 → w' = w)) := by
  obtain ⟨hn, hnc, hnm, e3, e4, e5, h6, h7, h8⟩ := hI.top
  refine CTW.mk hlt (by decide +kernel) (by first | exact Nat.le_of_ble_eq_true rfl | simp [lg_sl, cat_rf, cat_i, cat_l, cat_r]) ?_
  intro p e s m args below meth c X htab
  rw [show lv_args 0 [.ref (ad 0 0), .int (iI (z)), .ref (o)] = [(0, .ref (ad 0 0)), (1, .int (iI (z))), (2, .ref (o))] from by first | rfl | simp [lv_args, cat_rf, cat_i, cat_l, cat_r]]
  refine j_aload_n X dL_intervalOf_0 (q := 1) rfl 2 rfl ?_
  refine j_iconst X (a := 0) dL_intervalOf_1 (q := 2) rfl ?_
  refine j_aload_n X dL_intervalOf_2 (q := 3) rfl 0 rfl ?_
  refine j_iload_n X dL_intervalOf_3 (q := 4) rfl 1 rfl ?_
  refine j_callV X (As := [.int (iI (z))]) (st := [.int (iI (0)), .ref (o)]) hC.cal rfl (c_X3_intervalOf hlt hC hI z hzi) sv_L_34 (by decide) rfl (by first | decide | exact Nat.le_of_ble_eq_true rfl) dL_intervalOf_4 ⟨by decide, by decide⟩ (fun E w8 hE => ?_) ?_
  · skip
    obtain ⟨hk, rfl, rfl⟩ := hE
    refine j_catch X [] (⟨0, 9, 12, 13⟩ : ExceptionTableEntry) [] (htab.trans rfl) (fun z hz => absurd hz List.not_mem_nil) (by decide) (by decide) cl_L_13 (by decide) (fun q => ?_)
    have hx : akC n z = 1 := by unfold akC; (repeat' split) <;> omega
    show J p l e (Rm 3 1 6) s m args below meth c (vx_MQ below (Qn D base (fun v w' => v = some (.int (iI (akC n z))) ∧ (akC n z = 0 → ∃ f, f 0 = (iI (S 13 z)).toInt64 ∧ w' = wu w o (eLong ca f)) ∧ (akC n z ≠ 0 → w' = w))) (Xn D base (fun _ _ => False)) args s 1 6 (fun q => base ≤ q)) D base 4 1 6 12 [(0, .ref (ad 0 0)), (1, .int (iI (z))), (2, .ref (o))] [.ref (q)] w
    refine j_astore_n X (i := 3) dL_intervalOf_12 rfl (by decide) (q := 13) rfl (lv' := [(3, .ref (q)), (0, .ref (ad 0 0)), (1, .int (iI (z))), (2, .ref (o))]) (by first | rfl | simp [cat_rf, cat_i, cat_l, cat_r]) ?_
    refine j_iconst X (a := 1) dL_intervalOf_13 (q := 14) rfl ?_
    exact j_iret X rfl dL_intervalOf_14 (⟨by rw [hx], fun q => by rw [hx] at q; exact absurd q (by decide), fun _ => rfl⟩) (by decide) (by decide)
  · skip
    rintro v9 w9 ⟨hk, rfl, rfl⟩
    have hx : akC n z = 0 := by unfold akC; (repeat' split) <;> omega
    have ho9 := ho
    refine j_st (st := [.int (iI (S 13 z)), .int (iI (0)), .ref (o)]) ?_
    refine j_i2lR X dL_intervalOf_7 (q := 8) rfl ?_
    refine j_last X ho9 ⟨by decide, by decide⟩ (by decide) hbo dL_intervalOf_8 (q := 9) rfl ?_
    refine j_w (w' := (wu w o (eLong ca (va_up f0 (Int.toNat 0) (((iI (S 13 z)).toInt64)))))) rfl ?_
    refine j_goto X (tgt := 15) dL_intervalOf_9 (by decide) ?_
    refine j_iconst X (a := 0) dL_intervalOf_15 (q := 16) rfl ?_
    exact j_iret X rfl dL_intervalOf_16 (⟨by rw [hx], fun _ => ⟨_, rfl, rfl⟩, fun q => absurd hx q⟩) (by decide) (by decide)

set_option maxRecDepth 100000 in
set_option maxHeartbeats 4000000 in
theorem c_L_dueOf {l : Launch} (hlt : l.stackTraces = false) {D : va_G} {ca : Nat → ClassId} {base : Nat} {ad : Nat → Int → Nat} {n nc nm : Int} {S : St} {w : Wd} (hC : CW base ca ad n nc nm S w) (hI : IC n nc nm S) (o : Nat) (f0 : Nat → Int64) (ho : w o = some (eLong ca f0)) (hbo : base ≤ o) (z : Int) (hzi : -2147483648 ≤ z ∧ z ≤ 2147483647)  : CTW l D ca base yL_dueOf cL_dueOf 4 (some .int) [(0, 9, 12, 13)] 3 1 6 [.ref (ad 0 0), .int (iI (z)), .ref (o)] w (fun v w' => v = some (.int (iI (akC n z))) ∧ (akC n z = 0 → ∃ f, f 0 = (iI (if S 15 z < 0 then -1 else S 21 (S 15 z) + S 13 z)).toInt64 ∧ w' = wu w o (eLong ca f)) ∧ (akC n z ≠ 0 → w' = w)) := by
  obtain ⟨hn, hnc, hnm, e3, e4, e5, h6, h7, h8⟩ := hI.top
  refine CTW.mk hlt (by decide +kernel) (by first | exact Nat.le_of_ble_eq_true rfl | simp [lg_sl, cat_rf, cat_i, cat_l, cat_r]) ?_
  intro p e s m args below meth c X htab
  rw [show lv_args 0 [.ref (ad 0 0), .int (iI (z)), .ref (o)] = [(0, .ref (ad 0 0)), (1, .int (iI (z))), (2, .ref (o))] from by first | rfl | simp [lv_args, cat_rf, cat_i, cat_l, cat_r]]
  refine j_aload_n X dL_dueOf_0 (q := 1) rfl 2 rfl ?_
  refine j_iconst X (a := 0) dL_dueOf_1 (q := 2) rfl ?_
  refine j_aload_n X dL_dueOf_2 (q := 3) rfl 0 rfl ?_
  refine j_iload_n X dL_dueOf_3 (q := 4) rfl 1 rfl ?_
  refine j_callV X (As := [.int (iI (z))]) (st := [.int (iI (0)), .ref (o)]) hC.cal rfl (c_X3_dueOf hlt hC hI z hzi) sv_L_37 (by decide) rfl (by first | decide | exact Nat.le_of_ble_eq_true rfl) dL_dueOf_4 ⟨by decide, by decide⟩ (fun E w8 hE => ?_) ?_
  · skip
    obtain ⟨hk, rfl, rfl⟩ := hE
    refine j_catch X [] (⟨0, 9, 12, 13⟩ : ExceptionTableEntry) [] (htab.trans rfl) (fun z hz => absurd hz List.not_mem_nil) (by decide) (by decide) cl_L_13 (by decide) (fun q => ?_)
    have hx : akC n z = 1 := by unfold akC; (repeat' split) <;> omega
    show J p l e (Rm 3 1 6) s m args below meth c (vx_MQ below (Qn D base (fun v w' => v = some (.int (iI (akC n z))) ∧ (akC n z = 0 → ∃ f, f 0 = (iI (if S 15 z < 0 then -1 else S 21 (S 15 z) + S 13 z)).toInt64 ∧ w' = wu w o (eLong ca f)) ∧ (akC n z ≠ 0 → w' = w))) (Xn D base (fun _ _ => False)) args s 1 6 (fun q => base ≤ q)) D base 4 1 6 12 [(0, .ref (ad 0 0)), (1, .int (iI (z))), (2, .ref (o))] [.ref (q)] w
    refine j_astore_n X (i := 3) dL_dueOf_12 rfl (by decide) (q := 13) rfl (lv' := [(3, .ref (q)), (0, .ref (ad 0 0)), (1, .int (iI (z))), (2, .ref (o))]) (by first | rfl | simp [cat_rf, cat_i, cat_l, cat_r]) ?_
    refine j_iconst X (a := 1) dL_dueOf_13 (q := 14) rfl ?_
    exact j_iret X rfl dL_dueOf_14 (⟨by rw [hx], fun q => by rw [hx] at q; exact absurd q (by decide), fun _ => rfl⟩) (by decide) (by decide)
  · skip
    rintro v9 w9 ⟨hk, rfl, rfl⟩
    have hx : akC n z = 0 := by unfold akC; (repeat' split) <;> omega
    have ho9 := ho
    refine j_st (st := [.int (iI (if S 15 z < 0 then -1 else S 21 (S 15 z) + S 13 z)), .int (iI (0)), .ref (o)]) ?_
    refine j_i2lR X dL_dueOf_7 (q := 8) rfl ?_
    refine j_last X ho9 ⟨by decide, by decide⟩ (by decide) hbo dL_dueOf_8 (q := 9) rfl ?_
    refine j_w (w' := (wu w o (eLong ca (va_up f0 (Int.toNat 0) (((iI (if S 15 z < 0 then -1 else S 21 (S 15 z) + S 13 z)).toInt64)))))) rfl ?_
    refine j_goto X (tgt := 15) dL_dueOf_9 (by decide) ?_
    refine j_iconst X (a := 0) dL_dueOf_15 (q := 16) rfl ?_
    exact j_iret X rfl dL_dueOf_16 (⟨by rw [hx], fun _ => ⟨_, rfl, rfl⟩, fun q => absurd hx q⟩) (by decide) (by decide)

set_option maxRecDepth 100000 in
set_option maxHeartbeats 4000000 in
theorem c_L_isSuspect {l : Launch} (hlt : l.stackTraces = false) {D : va_G} {ca : Nat → ClassId} {base : Nat} {ad : Nat → Int → Nat} {n nc nm : Int} {S : St} {w : Wd} (hC : CW base ca ad n nc nm S w) (hI : IC n nc nm S) (o : Nat) (f0 : Nat → Int64) (ho : w o = some (eLong ca f0)) (hbo : base ≤ o) (z : Int) (hzi : -2147483648 ≤ z ∧ z ≤ 2147483647)  : CTW l D ca base yL_isSuspect cL_isSuspect 4 (some .int) [(0, 16, 19, 13)] 3 1 6 [.ref (ad 0 0), .int (iI (z)), .ref (o)] w (fun v w' => v = some (.int (iI (akC n z))) ∧ (akC n z = 0 → ∃ f, f 0 = iL (tf (0 ≤ S 15 z ∧ S 26 (S 15 z) = 1)) ∧ w' = wu w o (eLong ca f)) ∧ (akC n z ≠ 0 → w' = w)) := by
  obtain ⟨hn, hnc, hnm, e3, e4, e5, h6, h7, h8⟩ := hI.top
  refine CTW.mk hlt (by decide +kernel) (by first | exact Nat.le_of_ble_eq_true rfl | simp [lg_sl, cat_rf, cat_i, cat_l, cat_r]) ?_
  intro p e s m args below meth c X htab
  rw [show lv_args 0 [.ref (ad 0 0), .int (iI (z)), .ref (o)] = [(0, .ref (ad 0 0)), (1, .int (iI (z))), (2, .ref (o))] from by first | rfl | simp [lv_args, cat_rf, cat_i, cat_l, cat_r]]
  refine j_aload_n X dL_isSuspect_0 (q := 1) rfl 2 rfl ?_
  refine j_iconst X (a := 0) dL_isSuspect_1 (q := 2) rfl ?_
  refine j_aload_n X dL_isSuspect_2 (q := 3) rfl 0 rfl ?_
  refine j_iload_n X dL_isSuspect_3 (q := 4) rfl 1 rfl ?_
  refine j_callV X (As := [.int (iI (z))]) (st := [.int (iI (0)), .ref (o)]) hC.cal rfl (c_X3_isSuspect hlt hC hI z hzi) sv_L_40 (by decide) rfl (by first | decide | exact Nat.le_of_ble_eq_true rfl) dL_isSuspect_4 ⟨by decide, by decide⟩ (fun E w8 hE => ?_) ?_
  · skip
    obtain ⟨hk, rfl, rfl⟩ := hE
    refine j_catch X [] (⟨0, 16, 19, 13⟩ : ExceptionTableEntry) [] (htab.trans rfl) (fun z hz => absurd hz List.not_mem_nil) (by decide) (by decide) cl_L_13 (by decide) (fun q => ?_)
    have hx : akC n z = 1 := by unfold akC; (repeat' split) <;> omega
    show J p l e (Rm 3 1 6) s m args below meth c (vx_MQ below (Qn D base (fun v w' => v = some (.int (iI (akC n z))) ∧ (akC n z = 0 → ∃ f, f 0 = iL (tf (0 ≤ S 15 z ∧ S 26 (S 15 z) = 1)) ∧ w' = wu w o (eLong ca f)) ∧ (akC n z ≠ 0 → w' = w))) (Xn D base (fun _ _ => False)) args s 1 6 (fun q => base ≤ q)) D base 4 1 6 19 [(0, .ref (ad 0 0)), (1, .int (iI (z))), (2, .ref (o))] [.ref (q)] w
    refine j_astore_n X (i := 3) dL_isSuspect_19 rfl (by decide) (q := 20) rfl (lv' := [(3, .ref (q)), (0, .ref (ad 0 0)), (1, .int (iI (z))), (2, .ref (o))]) (by first | rfl | simp [cat_rf, cat_i, cat_l, cat_r]) ?_
    refine j_iconst X (a := 1) dL_isSuspect_20 (q := 21) rfl ?_
    exact j_iret X rfl dL_isSuspect_21 (⟨by rw [hx], fun q => by rw [hx] at q; exact absurd q (by decide), fun _ => rfl⟩) (by decide) (by decide)
  · skip
    rintro v9 w9 ⟨hk, rfl, rfl⟩
    have hx : akC n z = 0 := by unfold akC; (repeat' split) <;> omega
    have ho9 := ho
    refine j_st (st := [.int (iI (tf (0 ≤ S 15 z ∧ S 26 (S 15 z) = 1))), .int (iI (0)), .ref (o)]) ?_
    have hb9 : 0 ≤ (tf (0 ≤ S 15 z ∧ S 26 (S 15 z) = 1) : Int) ∧ (tf (0 ≤ S 15 z ∧ S 26 (S 15 z) = 1) : Int) ≤ 1 := tf_b _
    refine j_if_eq X (tgt := 14) dL_isSuspect_7 (by decide) (q := 10) rfl (by omega) (fun c_7 => ?_) (fun c_7 => ?_)
    · skip
      refine j_lconst X (a := 0) (by decide +kernel) dL_isSuspect_14 (q := 15) rfl ?_
      refine j_last X ho9 ⟨by decide, by decide⟩ (by decide) hbo dL_isSuspect_15 (q := 16) rfl ?_
      refine j_w (w' := (wu w o (eLong ca (va_up f0 (Int.toNat 0) ((iL (0))))))) rfl ?_
      refine j_goto X (tgt := 22) dL_isSuspect_16 (by decide) ?_
      refine j_iconst X (a := 0) dL_isSuspect_22 (q := 23) rfl ?_
      exact j_iret X rfl dL_isSuspect_23 (⟨by rw [hx], fun _ => ⟨_, (by rw [c_7]; rfl), rfl⟩, fun q => absurd hx q⟩) (by decide) (by decide)
    · skip
      refine j_lconst X (a := 1) (by decide +kernel) dL_isSuspect_10 (q := 11) rfl ?_
      refine j_goto X (tgt := 15) dL_isSuspect_11 (by decide) ?_
      refine j_last X ho9 ⟨by decide, by decide⟩ (by decide) hbo dL_isSuspect_15 (q := 16) rfl ?_
      refine j_w (w' := (wu w o (eLong ca (va_up f0 (Int.toNat 0) ((iL (1))))))) rfl ?_
      refine j_goto X (tgt := 22) dL_isSuspect_16 (by decide) ?_
      refine j_iconst X (a := 0) dL_isSuspect_22 (q := 23) rfl ?_
      exact j_iret X rfl dL_isSuspect_23 (⟨by rw [hx], fun _ => ⟨_, (by rw [show (tf (0 ≤ S 15 z ∧ S 26 (S 15 z) = 1) : Int) = 1 by omega]; rfl), rfl⟩, fun q => absurd hx q⟩) (by decide) (by decide)

set_option maxRecDepth 100000 in
set_option maxHeartbeats 4000000 in
theorem c_L_distrusted {l : Launch} (hlt : l.stackTraces = false) {D : va_G} {ca : Nat → ClassId} {base : Nat} {ad : Nat → Int → Nat} {n nc nm : Int} {S : St} {w : Wd} (hC : CW base ca ad n nc nm S w) (hI : IC n nc nm S) (o : Nat) (f0 : Nat → Int64) (ho : w o = some (eLong ca f0)) (hbo : base ≤ o) (z : Int) (hzi : -2147483648 ≤ z ∧ z ≤ 2147483647)  : CTW l D ca base yL_distrusted cL_distrusted 4 (some .int) [(0, 9, 12, 13)] 4 1 6 [.ref (ad 0 0), .int (iI (z)), .ref (o)] w (fun v w' => v = some (.int (iI (akC n z))) ∧ (akC n z = 0 → ∃ f, f 0 = (iI (fof (S 14) (inF S) 12 z)).toInt64 ∧ w' = wu w o (eLong ca f)) ∧ (akC n z ≠ 0 → w' = w)) := by
  obtain ⟨hn, hnc, hnm, e3, e4, e5, h6, h7, h8⟩ := hI.top
  refine CTW.mk hlt (by decide +kernel) (by first | exact Nat.le_of_ble_eq_true rfl | simp [lg_sl, cat_rf, cat_i, cat_l, cat_r]) ?_
  intro p e s m args below meth c X htab
  rw [show lv_args 0 [.ref (ad 0 0), .int (iI (z)), .ref (o)] = [(0, .ref (ad 0 0)), (1, .int (iI (z))), (2, .ref (o))] from by first | rfl | simp [lv_args, cat_rf, cat_i, cat_l, cat_r]]
  refine j_aload_n X dL_distrusted_0 (q := 1) rfl 2 rfl ?_
  refine j_iconst X (a := 0) dL_distrusted_1 (q := 2) rfl ?_
  refine j_aload_n X dL_distrusted_2 (q := 3) rfl 0 rfl ?_
  refine j_iload_n X dL_distrusted_3 (q := 4) rfl 1 rfl ?_
  refine j_callV X (As := [.int (iI (z))]) (st := [.int (iI (0)), .ref (o)]) hC.cal rfl (c_X3_distrusted hlt hC hI z hzi) sv_L_44 (by decide) rfl (by first | decide | exact Nat.le_of_ble_eq_true rfl) dL_distrusted_4 ⟨by decide, by decide⟩ (fun E w8 hE => ?_) ?_
  · skip
    obtain ⟨hk, rfl, rfl⟩ := hE
    refine j_catch X [] (⟨0, 9, 12, 13⟩ : ExceptionTableEntry) [] (htab.trans rfl) (fun z hz => absurd hz List.not_mem_nil) (by decide) (by decide) cl_L_13 (by decide) (fun q => ?_)
    have hx : akC n z = 1 := by unfold akC; (repeat' split) <;> omega
    show J p l e (Rm 4 1 6) s m args below meth c (vx_MQ below (Qn D base (fun v w' => v = some (.int (iI (akC n z))) ∧ (akC n z = 0 → ∃ f, f 0 = (iI (fof (S 14) (inF S) 12 z)).toInt64 ∧ w' = wu w o (eLong ca f)) ∧ (akC n z ≠ 0 → w' = w))) (Xn D base (fun _ _ => False)) args s 1 6 (fun q => base ≤ q)) D base 4 1 6 12 [(0, .ref (ad 0 0)), (1, .int (iI (z))), (2, .ref (o))] [.ref (q)] w
    refine j_astore_n X (i := 3) dL_distrusted_12 rfl (by decide) (q := 13) rfl (lv' := [(3, .ref (q)), (0, .ref (ad 0 0)), (1, .int (iI (z))), (2, .ref (o))]) (by first | rfl | simp [cat_rf, cat_i, cat_l, cat_r]) ?_
    refine j_iconst X (a := 1) dL_distrusted_13 (q := 14) rfl ?_
    exact j_iret X rfl dL_distrusted_14 (⟨by rw [hx], fun q => by rw [hx] at q; exact absurd q (by decide), fun _ => rfl⟩) (by decide) (by decide)
  · skip
    rintro v9 w9 ⟨hk, rfl, rfl⟩
    have hx : akC n z = 0 := by unfold akC; (repeat' split) <;> omega
    have ho9 := ho
    refine j_st (st := [.int (iI (fof (S 14) (inF S) 12 z)), .int (iI (0)), .ref (o)]) ?_
    refine j_i2lR X dL_distrusted_7 (q := 8) rfl ?_
    refine j_last X ho9 ⟨by decide, by decide⟩ (by decide) hbo dL_distrusted_8 (q := 9) rfl ?_
    refine j_w (w' := (wu w o (eLong ca (va_up f0 (Int.toNat 0) (((iI (fof (S 14) (inF S) 12 z)).toInt64)))))) rfl ?_
    refine j_goto X (tgt := 15) dL_distrusted_9 (by decide) ?_
    refine j_iconst X (a := 0) dL_distrusted_15 (q := 16) rfl ?_
    exact j_iret X rfl dL_distrusted_16 (⟨by rw [hx], fun _ => ⟨_, rfl, rfl⟩, fun q => absurd hx q⟩) (by decide) (by decide)

set_option maxRecDepth 100000 in
set_option maxHeartbeats 4000000 in
theorem c_L_chain {l : Launch} (hlt : l.stackTraces = false) {D : va_G} {ca : Nat → ClassId} {base : Nat} {ad : Nat → Int → Nat} {n nc nm : Int} {S : St} {w : Wd} (hC : CW base ca ad n nc nm S w) (hI : IC n nc nm S) (o : Nat) (f0 : Nat → Int64) (ho : w o = some (eLong ca f0)) (hbo : base ≤ o) (z : Int) (hzi : -2147483648 ≤ z ∧ z ≤ 2147483647)  : CTW l D ca base yL_chain cL_chain 4 (some .int) [(0, 9, 12, 13)] 3 1 6 [.ref (ad 0 0), .int (iI (z)), .ref (o)] w (fun v w' => v = some (.int (iI (akC n z))) ∧ (akC n z = 0 → ∃ f, f 0 = (iI (len (S 14) 12 z)).toInt64 ∧ w' = wu w o (eLong ca f)) ∧ (akC n z ≠ 0 → w' = w)) := by
  obtain ⟨hn, hnc, hnm, e3, e4, e5, h6, h7, h8⟩ := hI.top
  refine CTW.mk hlt (by decide +kernel) (by first | exact Nat.le_of_ble_eq_true rfl | simp [lg_sl, cat_rf, cat_i, cat_l, cat_r]) ?_
  intro p e s m args below meth c X htab
  rw [show lv_args 0 [.ref (ad 0 0), .int (iI (z)), .ref (o)] = [(0, .ref (ad 0 0)), (1, .int (iI (z))), (2, .ref (o))] from by first | rfl | simp [lv_args, cat_rf, cat_i, cat_l, cat_r]]
  refine j_aload_n X dL_chain_0 (q := 1) rfl 2 rfl ?_
  refine j_iconst X (a := 0) dL_chain_1 (q := 2) rfl ?_
  refine j_aload_n X dL_chain_2 (q := 3) rfl 0 rfl ?_
  refine j_iload_n X dL_chain_3 (q := 4) rfl 1 rfl ?_
  refine j_callV X (As := [.int (iI (z))]) (st := [.int (iI (0)), .ref (o)]) hC.cal rfl (c_X3_chain hlt hC hI z hzi) sv_L_47 (by decide) rfl (by first | decide | exact Nat.le_of_ble_eq_true rfl) dL_chain_4 ⟨by decide, by decide⟩ (fun E w8 hE => ?_) ?_
  · skip
    obtain ⟨hk, rfl, rfl⟩ := hE
    refine j_catch X [] (⟨0, 9, 12, 13⟩ : ExceptionTableEntry) [] (htab.trans rfl) (fun z hz => absurd hz List.not_mem_nil) (by decide) (by decide) cl_L_13 (by decide) (fun q => ?_)
    have hx : akC n z = 1 := by unfold akC; (repeat' split) <;> omega
    show J p l e (Rm 3 1 6) s m args below meth c (vx_MQ below (Qn D base (fun v w' => v = some (.int (iI (akC n z))) ∧ (akC n z = 0 → ∃ f, f 0 = (iI (len (S 14) 12 z)).toInt64 ∧ w' = wu w o (eLong ca f)) ∧ (akC n z ≠ 0 → w' = w))) (Xn D base (fun _ _ => False)) args s 1 6 (fun q => base ≤ q)) D base 4 1 6 12 [(0, .ref (ad 0 0)), (1, .int (iI (z))), (2, .ref (o))] [.ref (q)] w
    refine j_astore_n X (i := 3) dL_chain_12 rfl (by decide) (q := 13) rfl (lv' := [(3, .ref (q)), (0, .ref (ad 0 0)), (1, .int (iI (z))), (2, .ref (o))]) (by first | rfl | simp [cat_rf, cat_i, cat_l, cat_r]) ?_
    refine j_iconst X (a := 1) dL_chain_13 (q := 14) rfl ?_
    exact j_iret X rfl dL_chain_14 (⟨by rw [hx], fun q => by rw [hx] at q; exact absurd q (by decide), fun _ => rfl⟩) (by decide) (by decide)
  · skip
    rintro v9 w9 ⟨hk, rfl, rfl⟩
    have hx : akC n z = 0 := by unfold akC; (repeat' split) <;> omega
    have ho9 := ho
    refine j_st (st := [.int (iI (len (S 14) 12 z)), .int (iI (0)), .ref (o)]) ?_
    refine j_i2lR X dL_chain_7 (q := 8) rfl ?_
    refine j_last X ho9 ⟨by decide, by decide⟩ (by decide) hbo dL_chain_8 (q := 9) rfl ?_
    refine j_w (w' := (wu w o (eLong ca (va_up f0 (Int.toNat 0) (((iI (len (S 14) 12 z)).toInt64)))))) rfl ?_
    refine j_goto X (tgt := 15) dL_chain_9 (by decide) ?_
    refine j_iconst X (a := 0) dL_chain_15 (q := 16) rfl ?_
    exact j_iret X rfl dL_chain_16 (⟨by rw [hx], fun _ => ⟨_, rfl, rfl⟩, fun q => absurd hx q⟩) (by decide) (by decide)

set_option maxRecDepth 100000 in
set_option maxHeartbeats 4000000 in
theorem c_L_failures {l : Launch} (hlt : l.stackTraces = false) {D : va_G} {ca : Nat → ClassId} {base : Nat} {ad : Nat → Int → Nat} {n nc nm : Int} {S : St} {w : Wd} (hC : CW base ca ad n nc nm S w) (hI : IC n nc nm S) (o : Nat) (f0 : Nat → Int64) (ho : w o = some (eLong ca f0)) (hbo : base ≤ o) (z : Int) (hzi : -2147483648 ≤ z ∧ z ≤ 2147483647)  : CTW l D ca base yL_failures cL_failures 4 (some .int) [(0, 9, 12, 13)] 3 1 6 [.ref (ad 0 0), .int (iI (z)), .ref (o)] w (fun v w' => v = some (.int (iI (akC n z))) ∧ (akC n z = 0 → ∃ f, f 0 = (iI (S 16 z)).toInt64 ∧ w' = wu w o (eLong ca f)) ∧ (akC n z ≠ 0 → w' = w)) := by
  obtain ⟨hn, hnc, hnm, e3, e4, e5, h6, h7, h8⟩ := hI.top
  refine CTW.mk hlt (by decide +kernel) (by first | exact Nat.le_of_ble_eq_true rfl | simp [lg_sl, cat_rf, cat_i, cat_l, cat_r]) ?_
  intro p e s m args below meth c X htab
  rw [show lv_args 0 [.ref (ad 0 0), .int (iI (z)), .ref (o)] = [(0, .ref (ad 0 0)), (1, .int (iI (z))), (2, .ref (o))] from by first | rfl | simp [lv_args, cat_rf, cat_i, cat_l, cat_r]]
  refine j_aload_n X dL_failures_0 (q := 1) rfl 2 rfl ?_
  refine j_iconst X (a := 0) dL_failures_1 (q := 2) rfl ?_
  refine j_aload_n X dL_failures_2 (q := 3) rfl 0 rfl ?_
  refine j_iload_n X dL_failures_3 (q := 4) rfl 1 rfl ?_
  refine j_callV X (As := [.int (iI (z))]) (st := [.int (iI (0)), .ref (o)]) hC.cal rfl (c_X3_failures hlt hC hI z hzi) sv_L_50 (by decide) rfl (by first | decide | exact Nat.le_of_ble_eq_true rfl) dL_failures_4 ⟨by decide, by decide⟩ (fun E w8 hE => ?_) ?_
  · skip
    obtain ⟨hk, rfl, rfl⟩ := hE
    refine j_catch X [] (⟨0, 9, 12, 13⟩ : ExceptionTableEntry) [] (htab.trans rfl) (fun z hz => absurd hz List.not_mem_nil) (by decide) (by decide) cl_L_13 (by decide) (fun q => ?_)
    have hx : akC n z = 1 := by unfold akC; (repeat' split) <;> omega
    show J p l e (Rm 3 1 6) s m args below meth c (vx_MQ below (Qn D base (fun v w' => v = some (.int (iI (akC n z))) ∧ (akC n z = 0 → ∃ f, f 0 = (iI (S 16 z)).toInt64 ∧ w' = wu w o (eLong ca f)) ∧ (akC n z ≠ 0 → w' = w))) (Xn D base (fun _ _ => False)) args s 1 6 (fun q => base ≤ q)) D base 4 1 6 12 [(0, .ref (ad 0 0)), (1, .int (iI (z))), (2, .ref (o))] [.ref (q)] w
    refine j_astore_n X (i := 3) dL_failures_12 rfl (by decide) (q := 13) rfl (lv' := [(3, .ref (q)), (0, .ref (ad 0 0)), (1, .int (iI (z))), (2, .ref (o))]) (by first | rfl | simp [cat_rf, cat_i, cat_l, cat_r]) ?_
    refine j_iconst X (a := 1) dL_failures_13 (q := 14) rfl ?_
    exact j_iret X rfl dL_failures_14 (⟨by rw [hx], fun q => by rw [hx] at q; exact absurd q (by decide), fun _ => rfl⟩) (by decide) (by decide)
  · skip
    rintro v9 w9 ⟨hk, rfl, rfl⟩
    have hx : akC n z = 0 := by unfold akC; (repeat' split) <;> omega
    have ho9 := ho
    refine j_st (st := [.int (iI (S 16 z)), .int (iI (0)), .ref (o)]) ?_
    refine j_i2lR X dL_failures_7 (q := 8) rfl ?_
    refine j_last X ho9 ⟨by decide, by decide⟩ (by decide) hbo dL_failures_8 (q := 9) rfl ?_
    refine j_w (w' := (wu w o (eLong ca (va_up f0 (Int.toNat 0) (((iI (S 16 z)).toInt64)))))) rfl ?_
    refine j_goto X (tgt := 15) dL_failures_9 (by decide) ?_
    refine j_iconst X (a := 0) dL_failures_15 (q := 16) rfl ?_
    exact j_iret X rfl dL_failures_16 (⟨by rw [hx], fun _ => ⟨_, rfl, rfl⟩, fun q => absurd hx q⟩) (by decide) (by decide)

set_option maxRecDepth 100000 in
set_option maxHeartbeats 4000000 in
theorem c_L_slope {l : Launch} (hlt : l.stackTraces = false) {D : va_G} {ca : Nat → ClassId} {base : Nat} {ad : Nat → Int → Nat} {n nc nm : Int} {S : St} {w : Wd} (hC : CW base ca ad n nc nm S w) (hI : IC n nc nm S) (o : Nat) (f0 : Nat → UInt64) (ho : w o = some (eDbl ca f0)) (hbo : base ≤ o) (z : Int) (hzi : -2147483648 ≤ z ∧ z ≤ 2147483647)  : CTW l D ca base yL_slope cL_slope 4 (some .int) [(0, 8, 11, 13)] 3 1 6 [.ref (ad 0 0), .int (iI (z)), .ref (o)] w (fun v w' => v = some (.int (iI (akC n z))) ∧ (akC n z = 0 → ∃ f, f 0 = slP (S 17 z) (S 18 z) ∧ w' = wu w o (eDbl ca f)) ∧ (akC n z ≠ 0 → w' = w)) := by
  obtain ⟨hn, hnc, hnm, e3, e4, e5, h6, h7, h8⟩ := hI.top
  refine CTW.mk hlt (by decide +kernel) (by first | exact Nat.le_of_ble_eq_true rfl | simp [lg_sl, cat_rf, cat_i, cat_l, cat_r]) ?_
  intro p e s m args below meth c X htab
  rw [show lv_args 0 [.ref (ad 0 0), .int (iI (z)), .ref (o)] = [(0, .ref (ad 0 0)), (1, .int (iI (z))), (2, .ref (o))] from by first | rfl | simp [lv_args, cat_rf, cat_i, cat_l, cat_r]]
  refine j_aload_n X dL_slope_0 (q := 1) rfl 2 rfl ?_
  refine j_iconst X (a := 0) dL_slope_1 (q := 2) rfl ?_
  refine j_aload_n X dL_slope_2 (q := 3) rfl 0 rfl ?_
  refine j_iload_n X dL_slope_3 (q := 4) rfl 1 rfl ?_
  refine j_callV X (As := [.int (iI (z))]) (st := [.int (iI (0)), .ref (o)]) hC.cal rfl (c_X3_slope hlt hC hI z hzi) sv_L_53 (by decide) rfl (by first | decide | exact Nat.le_of_ble_eq_true rfl) dL_slope_4 ⟨by decide, by decide⟩ (fun E w8 hE => ?_) ?_
  · skip
    obtain ⟨hk, rfl, rfl⟩ := hE
    refine j_catch X [] (⟨0, 8, 11, 13⟩ : ExceptionTableEntry) [] (htab.trans rfl) (fun z hz => absurd hz List.not_mem_nil) (by decide) (by decide) cl_L_13 (by decide) (fun q => ?_)
    have hx : akC n z = 1 := by unfold akC; (repeat' split) <;> omega
    show J p l e (Rm 3 1 6) s m args below meth c (vx_MQ below (Qn D base (fun v w' => v = some (.int (iI (akC n z))) ∧ (akC n z = 0 → ∃ f, f 0 = slP (S 17 z) (S 18 z) ∧ w' = wu w o (eDbl ca f)) ∧ (akC n z ≠ 0 → w' = w))) (Xn D base (fun _ _ => False)) args s 1 6 (fun q => base ≤ q)) D base 4 1 6 11 [(0, .ref (ad 0 0)), (1, .int (iI (z))), (2, .ref (o))] [.ref (q)] w
    refine j_astore_n X (i := 3) dL_slope_11 rfl (by decide) (q := 12) rfl (lv' := [(3, .ref (q)), (0, .ref (ad 0 0)), (1, .int (iI (z))), (2, .ref (o))]) (by first | rfl | simp [cat_rf, cat_i, cat_l, cat_r]) ?_
    refine j_iconst X (a := 1) dL_slope_12 (q := 13) rfl ?_
    exact j_iret X rfl dL_slope_13 (⟨by rw [hx], fun q => by rw [hx] at q; exact absurd q (by decide), fun _ => rfl⟩) (by decide) (by decide)
  · skip
    rintro v9 w9 ⟨hk, rfl, rfl⟩
    have hx : akC n z = 0 := by unfold akC; (repeat' split) <;> omega
    have ho9 := ho
    refine j_st (st := [.double (slP (S 17 z) (S 18 z)), .int (iI (0)), .ref (o)]) ?_
    refine j_dast X ho9 ⟨by decide, by decide⟩ (by decide) hbo dL_slope_7 (q := 8) rfl ?_
    refine j_w (w' := (wu w o (eDbl ca (va_up f0 (Int.toNat 0) ((slP (S 17 z) (S 18 z))))))) rfl ?_
    refine j_goto X (tgt := 14) dL_slope_8 (by decide) ?_
    refine j_iconst X (a := 0) dL_slope_14 (q := 15) rfl ?_
    exact j_iret X rfl dL_slope_15 (⟨by rw [hx], fun _ => ⟨_, rfl, rfl⟩, fun q => absurd hx q⟩) (by decide) (by decide)

set_option maxRecDepth 100000 in
set_option maxHeartbeats 4000000 in
theorem c_L_driftsOut {l : Launch} (hlt : l.stackTraces = false) {D : va_G} {ca : Nat → ClassId} {base : Nat} {ad : Nat → Int → Nat} {n nc nm : Int} {S : St} {w : Wd} (hC : CW base ca ad n nc nm S w) (hI : IC n nc nm S) (o : Nat) (f0 : Nat → Int64) (ho : w o = some (eLong ca f0)) (hbo : base ≤ o) (z : Int) (hzi : -2147483648 ≤ z ∧ z ≤ 2147483647)  : CTW l D ca base yL_driftsOut cL_driftsOut 4 (some .int) [(0, 9, 12, 13)] 4 1 6 [.ref (ad 0 0), .int (iI (z)), .ref (o)] w (fun v w' => v = some (.int (iI (akC n z))) ∧ (akC n z = 0 → ∃ f, f 0 = (iI (drS S z)).toInt64 ∧ w' = wu w o (eLong ca f)) ∧ (akC n z ≠ 0 → w' = w)) := by
  obtain ⟨hn, hnc, hnm, e3, e4, e5, h6, h7, h8⟩ := hI.top
  refine CTW.mk hlt (by decide +kernel) (by first | exact Nat.le_of_ble_eq_true rfl | simp [lg_sl, cat_rf, cat_i, cat_l, cat_r]) ?_
  intro p e s m args below meth c X htab
  rw [show lv_args 0 [.ref (ad 0 0), .int (iI (z)), .ref (o)] = [(0, .ref (ad 0 0)), (1, .int (iI (z))), (2, .ref (o))] from by first | rfl | simp [lv_args, cat_rf, cat_i, cat_l, cat_r]]
  refine j_aload_n X dL_driftsOut_0 (q := 1) rfl 2 rfl ?_
  refine j_iconst X (a := 0) dL_driftsOut_1 (q := 2) rfl ?_
  refine j_aload_n X dL_driftsOut_2 (q := 3) rfl 0 rfl ?_
  refine j_iload_n X dL_driftsOut_3 (q := 4) rfl 1 rfl ?_
  refine j_callV X (As := [.int (iI (z))]) (st := [.int (iI (0)), .ref (o)]) hC.cal rfl (c_X3_driftsOut hlt hC hI z hzi) sv_L_61 (by decide) rfl (by first | decide | exact Nat.le_of_ble_eq_true rfl) dL_driftsOut_4 ⟨by decide, by decide⟩ (fun E w8 hE => ?_) ?_
  · skip
    obtain ⟨hk, rfl, rfl⟩ := hE
    refine j_catch X [] (⟨0, 9, 12, 13⟩ : ExceptionTableEntry) [] (htab.trans rfl) (fun z hz => absurd hz List.not_mem_nil) (by decide) (by decide) cl_L_13 (by decide) (fun q => ?_)
    have hx : akC n z = 1 := by unfold akC; (repeat' split) <;> omega
    show J p l e (Rm 4 1 6) s m args below meth c (vx_MQ below (Qn D base (fun v w' => v = some (.int (iI (akC n z))) ∧ (akC n z = 0 → ∃ f, f 0 = (iI (drS S z)).toInt64 ∧ w' = wu w o (eLong ca f)) ∧ (akC n z ≠ 0 → w' = w))) (Xn D base (fun _ _ => False)) args s 1 6 (fun q => base ≤ q)) D base 4 1 6 12 [(0, .ref (ad 0 0)), (1, .int (iI (z))), (2, .ref (o))] [.ref (q)] w
    refine j_astore_n X (i := 3) dL_driftsOut_12 rfl (by decide) (q := 13) rfl (lv' := [(3, .ref (q)), (0, .ref (ad 0 0)), (1, .int (iI (z))), (2, .ref (o))]) (by first | rfl | simp [cat_rf, cat_i, cat_l, cat_r]) ?_
    refine j_iconst X (a := 1) dL_driftsOut_13 (q := 14) rfl ?_
    exact j_iret X rfl dL_driftsOut_14 (⟨by rw [hx], fun q => by rw [hx] at q; exact absurd q (by decide), fun _ => rfl⟩) (by decide) (by decide)
  · skip
    rintro v9 w9 ⟨hk, rfl, rfl⟩
    have hx : akC n z = 0 := by unfold akC; (repeat' split) <;> omega
    have ho9 := ho
    refine j_st (st := [.int (iI (drS S z)), .int (iI (0)), .ref (o)]) ?_
    refine j_i2lR X dL_driftsOut_7 (q := 8) rfl ?_
    refine j_last X ho9 ⟨by decide, by decide⟩ (by decide) hbo dL_driftsOut_8 (q := 9) rfl ?_
    refine j_w (w' := (wu w o (eLong ca (va_up f0 (Int.toNat 0) (((iI (drS S z)).toInt64)))))) rfl ?_
    refine j_goto X (tgt := 15) dL_driftsOut_9 (by decide) ?_
    refine j_iconst X (a := 0) dL_driftsOut_15 (q := 16) rfl ?_
    exact j_iret X rfl dL_driftsOut_16 (⟨by rw [hx], fun _ => ⟨_, rfl, rfl⟩, fun q => absurd hx q⟩) (by decide) (by decide)

set_option maxRecDepth 100000 in
set_option maxHeartbeats 4000000 in
theorem c_L_uncertainty {l : Launch} (hlt : l.stackTraces = false) {D : va_G} {ca : Nat → ClassId} {base : Nat} {ad : Nat → Int → Nat} {n nc nm : Int} {S : St} {w : Wd} (hC : CW base ca ad n nc nm S w) (hI : IC n nc nm S) (o : Nat) (f0 : Nat → Int64) (ho : w o = some (eLong ca f0)) (hbo : base ≤ o) (z : Int) (hzi : -2147483648 ≤ z ∧ z ≤ 2147483647)  : CTW l D ca base yL_uncertainty cL_uncertainty 4 (some .int) [(0, 9, 12, 13)] 15 1 6 [.ref (ad 0 0), .int (iI (z)), .ref (o)] w (fun v w' => v = some (.int (iI (akC n z))) ∧ (akC n z = 0 → ∃ f, f 0 = (iI (unc (S 14) (S 12) 12 z)).toInt64 ∧ w' = wu w o (eLong ca f)) ∧ (akC n z ≠ 0 → w' = w)) := by
  obtain ⟨hn, hnc, hnm, e3, e4, e5, h6, h7, h8⟩ := hI.top
  refine CTW.mk hlt (by decide +kernel) (by first | exact Nat.le_of_ble_eq_true rfl | simp [lg_sl, cat_rf, cat_i, cat_l, cat_r]) ?_
  intro p e s m args below meth c X htab
  rw [show lv_args 0 [.ref (ad 0 0), .int (iI (z)), .ref (o)] = [(0, .ref (ad 0 0)), (1, .int (iI (z))), (2, .ref (o))] from by first | rfl | simp [lv_args, cat_rf, cat_i, cat_l, cat_r]]
  refine j_aload_n X dL_uncertainty_0 (q := 1) rfl 2 rfl ?_
  refine j_iconst X (a := 0) dL_uncertainty_1 (q := 2) rfl ?_
  refine j_aload_n X dL_uncertainty_2 (q := 3) rfl 0 rfl ?_
  refine j_iload_n X dL_uncertainty_3 (q := 4) rfl 1 rfl ?_
  refine j_callV X (As := [.int (iI (z))]) (st := [.int (iI (0)), .ref (o)]) hC.cal rfl (c_X3_uncertainty hlt hC hI z hzi) sv_L_64 (by decide) rfl (by first | decide | exact Nat.le_of_ble_eq_true rfl) dL_uncertainty_4 ⟨by decide, by decide⟩ (fun E w8 hE => ?_) ?_
  · skip
    obtain ⟨hk, rfl, rfl⟩ := hE
    refine j_catch X [] (⟨0, 9, 12, 13⟩ : ExceptionTableEntry) [] (htab.trans rfl) (fun z hz => absurd hz List.not_mem_nil) (by decide) (by decide) cl_L_13 (by decide) (fun q => ?_)
    have hx : akC n z = 1 := by unfold akC; (repeat' split) <;> omega
    show J p l e (Rm 15 1 6) s m args below meth c (vx_MQ below (Qn D base (fun v w' => v = some (.int (iI (akC n z))) ∧ (akC n z = 0 → ∃ f, f 0 = (iI (unc (S 14) (S 12) 12 z)).toInt64 ∧ w' = wu w o (eLong ca f)) ∧ (akC n z ≠ 0 → w' = w))) (Xn D base (fun _ _ => False)) args s 1 6 (fun q => base ≤ q)) D base 4 1 6 12 [(0, .ref (ad 0 0)), (1, .int (iI (z))), (2, .ref (o))] [.ref (q)] w
    refine j_astore_n X (i := 3) dL_uncertainty_12 rfl (by decide) (q := 13) rfl (lv' := [(3, .ref (q)), (0, .ref (ad 0 0)), (1, .int (iI (z))), (2, .ref (o))]) (by first | rfl | simp [cat_rf, cat_i, cat_l, cat_r]) ?_
    refine j_iconst X (a := 1) dL_uncertainty_13 (q := 14) rfl ?_
    exact j_iret X rfl dL_uncertainty_14 (⟨by rw [hx], fun q => by rw [hx] at q; exact absurd q (by decide), fun _ => rfl⟩) (by decide) (by decide)
  · skip
    rintro v9 w9 ⟨hk, rfl, rfl⟩
    have hx : akC n z = 0 := by unfold akC; (repeat' split) <;> omega
    have ho9 := ho
    refine j_st (st := [.int (iI (unc (S 14) (S 12) 12 z)), .int (iI (0)), .ref (o)]) ?_
    refine j_i2lR X dL_uncertainty_7 (q := 8) rfl ?_
    refine j_last X ho9 ⟨by decide, by decide⟩ (by decide) hbo dL_uncertainty_8 (q := 9) rfl ?_
    refine j_w (w' := (wu w o (eLong ca (va_up f0 (Int.toNat 0) (((iI (unc (S 14) (S 12) 12 z)).toInt64)))))) rfl ?_
    refine j_goto X (tgt := 15) dL_uncertainty_9 (by decide) ?_
    refine j_iconst X (a := 0) dL_uncertainty_15 (q := 16) rfl ?_
    exact j_iret X rfl dL_uncertainty_16 (⟨by rw [hx], fun _ => ⟨_, rfl, rfl⟩, fun q => absurd hx q⟩) (by decide) (by decide)

set_option maxRecDepth 100000 in
set_option maxHeartbeats 4000000 in
theorem c_L_limit {l : Launch} (hlt : l.stackTraces = false) {D : va_G} {ca : Nat → ClassId} {base : Nat} {ad : Nat → Int → Nat} {n nc nm : Int} {S : St} {w : Wd} (hC : CW base ca ad n nc nm S w) (hI : IC n nc nm S) (o : Nat) (f0 : Nat → Int64) (ho : w o = some (eLong ca f0)) (hbo : base ≤ o) (z : Int) (hzi : -2147483648 ≤ z ∧ z ≤ 2147483647)  : CTW l D ca base yL_limit cL_limit 4 (some .int) [(0, 9, 12, 13)] 15 1 6 [.ref (ad 0 0), .int (iI (z)), .ref (o)] w (fun v w' => v = some (.int (iI (akC n z))) ∧ (akC n z = 0 → ∃ f, f 0 = (iI (if 0 < S 11 z - unc (S 14) (S 12) 12 z then S 11 z - unc (S 14) (S 12) 12 z else 0)).toInt64 ∧ w' = wu w o (eLong ca f)) ∧ (akC n z ≠ 0 → w' = w)) := by
  obtain ⟨hn, hnc, hnm, e3, e4, e5, h6, h7, h8⟩ := hI.top
  refine CTW.mk hlt (by decide +kernel) (by first | exact Nat.le_of_ble_eq_true rfl | simp [lg_sl, cat_rf, cat_i, cat_l, cat_r]) ?_
  intro p e s m args below meth c X htab
  rw [show lv_args 0 [.ref (ad 0 0), .int (iI (z)), .ref (o)] = [(0, .ref (ad 0 0)), (1, .int (iI (z))), (2, .ref (o))] from by first | rfl | simp [lv_args, cat_rf, cat_i, cat_l, cat_r]]
  refine j_aload_n X dL_limit_0 (q := 1) rfl 2 rfl ?_
  refine j_iconst X (a := 0) dL_limit_1 (q := 2) rfl ?_
  refine j_aload_n X dL_limit_2 (q := 3) rfl 0 rfl ?_
  refine j_iload_n X dL_limit_3 (q := 4) rfl 1 rfl ?_
  refine j_callV X (As := [.int (iI (z))]) (st := [.int (iI (0)), .ref (o)]) hC.cal rfl (c_X3_limit hlt hC hI z hzi) sv_L_67 (by decide) rfl (by first | decide | exact Nat.le_of_ble_eq_true rfl) dL_limit_4 ⟨by decide, by decide⟩ (fun E w8 hE => ?_) ?_
  · skip
    obtain ⟨hk, rfl, rfl⟩ := hE
    refine j_catch X [] (⟨0, 9, 12, 13⟩ : ExceptionTableEntry) [] (htab.trans rfl) (fun z hz => absurd hz List.not_mem_nil) (by decide) (by decide) cl_L_13 (by decide) (fun q => ?_)
    have hx : akC n z = 1 := by unfold akC; (repeat' split) <;> omega
    show J p l e (Rm 15 1 6) s m args below meth c (vx_MQ below (Qn D base (fun v w' => v = some (.int (iI (akC n z))) ∧ (akC n z = 0 → ∃ f, f 0 = (iI (if 0 < S 11 z - unc (S 14) (S 12) 12 z then S 11 z - unc (S 14) (S 12) 12 z else 0)).toInt64 ∧ w' = wu w o (eLong ca f)) ∧ (akC n z ≠ 0 → w' = w))) (Xn D base (fun _ _ => False)) args s 1 6 (fun q => base ≤ q)) D base 4 1 6 12 [(0, .ref (ad 0 0)), (1, .int (iI (z))), (2, .ref (o))] [.ref (q)] w
    refine j_astore_n X (i := 3) dL_limit_12 rfl (by decide) (q := 13) rfl (lv' := [(3, .ref (q)), (0, .ref (ad 0 0)), (1, .int (iI (z))), (2, .ref (o))]) (by first | rfl | simp [cat_rf, cat_i, cat_l, cat_r]) ?_
    refine j_iconst X (a := 1) dL_limit_13 (q := 14) rfl ?_
    exact j_iret X rfl dL_limit_14 (⟨by rw [hx], fun q => by rw [hx] at q; exact absurd q (by decide), fun _ => rfl⟩) (by decide) (by decide)
  · skip
    rintro v9 w9 ⟨hk, rfl, rfl⟩
    have hx : akC n z = 0 := by unfold akC; (repeat' split) <;> omega
    have ho9 := ho
    refine j_st (st := [.int (iI (if 0 < S 11 z - unc (S 14) (S 12) 12 z then S 11 z - unc (S 14) (S 12) 12 z else 0)), .int (iI (0)), .ref (o)]) ?_
    refine j_i2lR X dL_limit_7 (q := 8) rfl ?_
    refine j_last X ho9 ⟨by decide, by decide⟩ (by decide) hbo dL_limit_8 (q := 9) rfl ?_
    refine j_w (w' := (wu w o (eLong ca (va_up f0 (Int.toNat 0) (((iI (if 0 < S 11 z - unc (S 14) (S 12) 12 z then S 11 z - unc (S 14) (S 12) 12 z else 0)).toInt64)))))) rfl ?_
    refine j_goto X (tgt := 15) dL_limit_9 (by decide) ?_
    refine j_iconst X (a := 0) dL_limit_15 (q := 16) rfl ?_
    exact j_iret X rfl dL_limit_16 (⟨by rw [hx], fun _ => ⟨_, rfl, rfl⟩, fun q => absurd hx q⟩) (by decide) (by decide)

set_option maxRecDepth 100000 in
set_option maxHeartbeats 4000000 in
theorem c_L_atStake {l : Launch} (hlt : l.stackTraces = false) {D : va_G} {ca : Nat → ClassId} {base : Nat} {ad : Nat → Int → Nat} {n nc nm : Int} {S : St} {w : Wd} (hC : CW base ca ad n nc nm S w) (hI : IC n nc nm S) (o : Nat) (f0 : Nat → Int64) (ho : w o = some (eLong ca f0)) (hbo : base ≤ o) (z : Int) (hzi : -2147483648 ≤ z ∧ z ≤ 2147483647)  : CTW l D ca base yL_atStake cL_atStake 4 (some .int) [(0, 9, 12, 13)] 4 1 6 [.ref (ad 0 0), .int (iI (z)), .ref (o)] w (fun v w' => v = some (.int (iI (akC n z))) ∧ (akC n z = 0 → ∃ f, f 0 = (iI (if S 15 z < 0 then 0 else sm (stk S (S 15 z)) nm.toNat)).toInt64 ∧ w' = wu w o (eLong ca f)) ∧ (akC n z ≠ 0 → w' = w)) := by
  obtain ⟨hn, hnc, hnm, e3, e4, e5, h6, h7, h8⟩ := hI.top
  refine CTW.mk hlt (by decide +kernel) (by first | exact Nat.le_of_ble_eq_true rfl | simp [lg_sl, cat_rf, cat_i, cat_l, cat_r]) ?_
  intro p e s m args below meth c X htab
  rw [show lv_args 0 [.ref (ad 0 0), .int (iI (z)), .ref (o)] = [(0, .ref (ad 0 0)), (1, .int (iI (z))), (2, .ref (o))] from by first | rfl | simp [lv_args, cat_rf, cat_i, cat_l, cat_r]]
  refine j_aload_n X dL_atStake_0 (q := 1) rfl 2 rfl ?_
  refine j_iconst X (a := 0) dL_atStake_1 (q := 2) rfl ?_
  refine j_aload_n X dL_atStake_2 (q := 3) rfl 0 rfl ?_
  refine j_iload_n X dL_atStake_3 (q := 4) rfl 1 rfl ?_
  refine j_callV X (As := [.int (iI (z))]) (st := [.int (iI (0)), .ref (o)]) hC.cal rfl (c_X3_atStake hlt hC hI z hzi) sv_L_73 (by decide) rfl (by first | decide | exact Nat.le_of_ble_eq_true rfl) dL_atStake_4 ⟨by decide, by decide⟩ (fun E w8 hE => ?_) ?_
  · skip
    obtain ⟨hk, rfl, rfl⟩ := hE
    refine j_catch X [] (⟨0, 9, 12, 13⟩ : ExceptionTableEntry) [] (htab.trans rfl) (fun z hz => absurd hz List.not_mem_nil) (by decide) (by decide) cl_L_13 (by decide) (fun q => ?_)
    have hx : akC n z = 1 := by unfold akC; (repeat' split) <;> omega
    show J p l e (Rm 4 1 6) s m args below meth c (vx_MQ below (Qn D base (fun v w' => v = some (.int (iI (akC n z))) ∧ (akC n z = 0 → ∃ f, f 0 = (iI (if S 15 z < 0 then 0 else sm (stk S (S 15 z)) nm.toNat)).toInt64 ∧ w' = wu w o (eLong ca f)) ∧ (akC n z ≠ 0 → w' = w))) (Xn D base (fun _ _ => False)) args s 1 6 (fun q => base ≤ q)) D base 4 1 6 12 [(0, .ref (ad 0 0)), (1, .int (iI (z))), (2, .ref (o))] [.ref (q)] w
    refine j_astore_n X (i := 3) dL_atStake_12 rfl (by decide) (q := 13) rfl (lv' := [(3, .ref (q)), (0, .ref (ad 0 0)), (1, .int (iI (z))), (2, .ref (o))]) (by first | rfl | simp [cat_rf, cat_i, cat_l, cat_r]) ?_
    refine j_iconst X (a := 1) dL_atStake_13 (q := 14) rfl ?_
    exact j_iret X rfl dL_atStake_14 (⟨by rw [hx], fun q => by rw [hx] at q; exact absurd q (by decide), fun _ => rfl⟩) (by decide) (by decide)
  · skip
    rintro v9 w9 ⟨hk, rfl, rfl⟩
    have hx : akC n z = 0 := by unfold akC; (repeat' split) <;> omega
    have ho9 := ho
    refine j_st (st := [.int (iI (if S 15 z < 0 then 0 else sm (stk S (S 15 z)) nm.toNat)), .int (iI (0)), .ref (o)]) ?_
    refine j_i2lR X dL_atStake_7 (q := 8) rfl ?_
    refine j_last X ho9 ⟨by decide, by decide⟩ (by decide) hbo dL_atStake_8 (q := 9) rfl ?_
    refine j_w (w' := (wu w o (eLong ca (va_up f0 (Int.toNat 0) (((iI (if S 15 z < 0 then 0 else sm (stk S (S 15 z)) nm.toNat)).toInt64)))))) rfl ?_
    refine j_goto X (tgt := 15) dL_atStake_9 (by decide) ?_
    refine j_iconst X (a := 0) dL_atStake_15 (q := 16) rfl ?_
    exact j_iret X rfl dL_atStake_16 (⟨by rw [hx], fun _ => ⟨_, rfl, rfl⟩, fun q => absurd hx q⟩) (by decide) (by decide)

set_option maxRecDepth 100000 in
set_option maxHeartbeats 4000000 in
theorem c_L_isCalledBack {l : Launch} (hlt : l.stackTraces = false) {D : va_G} {ca : Nat → ClassId} {base : Nat} {ad : Nat → Int → Nat} {n nc nm : Int} {S : St} {w : Wd} (hC : CW base ca ad n nc nm S w) (hI : IC n nc nm S) (o : Nat) (f0 : Nat → Int64) (ho : w o = some (eLong ca f0)) (hbo : base ≤ o) (z : Int) (hzi : -2147483648 ≤ z ∧ z ≤ 2147483647)  : CTW l D ca base yL_isCalledBack cL_isCalledBack 4 (some .int) [(0, 16, 19, 13)] 1 1 6 [.ref (ad 0 0), .int (iI (z)), .ref (o)] w (fun v w' => v = some (.int (iI (cbC nm z))) ∧ (cbC nm z = 0 → ∃ f, f 0 = iL (S 32 z) ∧ w' = wu w o (eLong ca f)) ∧ (cbC nm z ≠ 0 → w' = w)) := by
  obtain ⟨hn, hnc, hnm, e3, e4, e5, h6, h7, h8⟩ := hI.top
  refine CTW.mk hlt (by decide +kernel) (by first | exact Nat.le_of_ble_eq_true rfl | simp [lg_sl, cat_rf, cat_i, cat_l, cat_r]) ?_
  intro p e s m args below meth c X htab
  rw [show lv_args 0 [.ref (ad 0 0), .int (iI (z)), .ref (o)] = [(0, .ref (ad 0 0)), (1, .int (iI (z))), (2, .ref (o))] from by first | rfl | simp [lv_args, cat_rf, cat_i, cat_l, cat_r]]
  refine j_aload_n X dL_isCalledBack_0 (q := 1) rfl 2 rfl ?_
  refine j_iconst X (a := 0) dL_isCalledBack_1 (q := 2) rfl ?_
  refine j_aload_n X dL_isCalledBack_2 (q := 3) rfl 0 rfl ?_
  refine j_iload_n X dL_isCalledBack_3 (q := 4) rfl 1 rfl ?_
  refine j_callV X (As := [.int (iI (z))]) (st := [.int (iI (0)), .ref (o)]) hC.cal rfl (c_X3_isCalledBack hlt hC hI z hzi) sv_L_70 (by decide) rfl (by first | decide | exact Nat.le_of_ble_eq_true rfl) dL_isCalledBack_4 ⟨by decide, by decide⟩ (fun E w8 hE => ?_) ?_
  · skip
    obtain ⟨hk, rfl, rfl⟩ := hE
    refine j_catch X [] (⟨0, 16, 19, 13⟩ : ExceptionTableEntry) [] (htab.trans rfl) (fun z hz => absurd hz List.not_mem_nil) (by decide) (by decide) cl_L_13 (by decide) (fun q => ?_)
    have hx : cbC nm z = 1 := by unfold cbC; (repeat' split) <;> omega
    show J p l e (Rm 1 1 6) s m args below meth c (vx_MQ below (Qn D base (fun v w' => v = some (.int (iI (cbC nm z))) ∧ (cbC nm z = 0 → ∃ f, f 0 = iL (S 32 z) ∧ w' = wu w o (eLong ca f)) ∧ (cbC nm z ≠ 0 → w' = w))) (Xn D base (fun _ _ => False)) args s 1 6 (fun q => base ≤ q)) D base 4 1 6 19 [(0, .ref (ad 0 0)), (1, .int (iI (z))), (2, .ref (o))] [.ref (q)] w
    refine j_astore_n X (i := 3) dL_isCalledBack_19 rfl (by decide) (q := 20) rfl (lv' := [(3, .ref (q)), (0, .ref (ad 0 0)), (1, .int (iI (z))), (2, .ref (o))]) (by first | rfl | simp [cat_rf, cat_i, cat_l, cat_r]) ?_
    refine j_iconst X (a := 1) dL_isCalledBack_20 (q := 21) rfl ?_
    exact j_iret X rfl dL_isCalledBack_21 (⟨by rw [hx], fun q => by rw [hx] at q; exact absurd q (by decide), fun _ => rfl⟩) (by decide) (by decide)
  · skip
    rintro v9 w9 ⟨hk, rfl, rfl⟩
    have hx : cbC nm z = 0 := by unfold cbC; (repeat' split) <;> omega
    have ho9 := ho
    refine j_st (st := [.int (iI (S 32 z)), .int (iI (0)), .ref (o)]) ?_
    have hb9 : 0 ≤ (S 32 z : Int) ∧ (S 32 z : Int) ≤ 1 := (hI.mea hk.1 hk.2).2.2
    refine j_if_eq X (tgt := 14) dL_isCalledBack_7 (by decide) (q := 10) rfl (by omega) (fun c_7 => ?_) (fun c_7 => ?_)
    · skip
      refine j_lconst X (a := 0) (by decide +kernel) dL_isCalledBack_14 (q := 15) rfl ?_
      refine j_last X ho9 ⟨by decide, by decide⟩ (by decide) hbo dL_isCalledBack_15 (q := 16) rfl ?_
      refine j_w (w' := (wu w o (eLong ca (va_up f0 (Int.toNat 0) ((iL (0))))))) rfl ?_
      refine j_goto X (tgt := 22) dL_isCalledBack_16 (by decide) ?_
      refine j_iconst X (a := 0) dL_isCalledBack_22 (q := 23) rfl ?_
      exact j_iret X rfl dL_isCalledBack_23 (⟨by rw [hx], fun _ => ⟨_, (by rw [c_7]; rfl), rfl⟩, fun q => absurd hx q⟩) (by decide) (by decide)
    · skip
      refine j_lconst X (a := 1) (by decide +kernel) dL_isCalledBack_10 (q := 11) rfl ?_
      refine j_goto X (tgt := 15) dL_isCalledBack_11 (by decide) ?_
      refine j_last X ho9 ⟨by decide, by decide⟩ (by decide) hbo dL_isCalledBack_15 (q := 16) rfl ?_
      refine j_w (w' := (wu w o (eLong ca (va_up f0 (Int.toNat 0) ((iL (1))))))) rfl ?_
      refine j_goto X (tgt := 22) dL_isCalledBack_16 (by decide) ?_
      refine j_iconst X (a := 0) dL_isCalledBack_22 (q := 23) rfl ?_
      exact j_iret X rfl dL_isCalledBack_23 (⟨by rw [hx], fun _ => ⟨_, (by rw [show (S 32 z : Int) = 1 by omega]; rfl), rfl⟩, fun q => absurd hx q⟩) (by decide) (by decide)

set_option maxRecDepth 100000 in
set_option maxHeartbeats 4000000 in
theorem c_L_late {l : Launch} (hlt : l.stackTraces = false) {D : va_G} {ca : Nat → ClassId} {base : Nat} {ad : Nat → Int → Nat} {n nc nm : Int} {S : St} {w : Wd} (hC : CW base ca ad n nc nm S w) (hI : IC n nc nm S) (o : Nat) (f0 : Nat → Int64) (ho : w o = some (eLong ca f0)) (hbo : base ≤ o) (z : Int) (hzi : -2147483648 ≤ z ∧ z ≤ 2147483647)  : CTW l D ca base yL_late cL_late 4 (some .int) [(0, 9, 12, 15)] 3 1 6 [.ref (ad 0 0), .int (iI (z)), .ref (o)] w (fun v w' => v = some (.int (iI (ltC z))) ∧ (ltC z = 0 → ∃ f, f 0 = (iI (sm (latc S z) 12)).toInt64 ∧ w' = wu w o (eLong ca f)) ∧ (ltC z ≠ 0 → w' = w)) := by
  obtain ⟨hn, hnc, hnm, e3, e4, e5, h6, h7, h8⟩ := hI.top
  refine CTW.mk hlt (by decide +kernel) (by first | exact Nat.le_of_ble_eq_true rfl | simp [lg_sl, cat_rf, cat_i, cat_l, cat_r]) ?_
  intro p e s m args below meth c X htab
  rw [show lv_args 0 [.ref (ad 0 0), .int (iI (z)), .ref (o)] = [(0, .ref (ad 0 0)), (1, .int (iI (z))), (2, .ref (o))] from by first | rfl | simp [lv_args, cat_rf, cat_i, cat_l, cat_r]]
  refine j_aload_n X dL_late_0 (q := 1) rfl 2 rfl ?_
  refine j_iconst X (a := 0) dL_late_1 (q := 2) rfl ?_
  refine j_aload_n X dL_late_2 (q := 3) rfl 0 rfl ?_
  refine j_iload_n X dL_late_3 (q := 4) rfl 1 rfl ?_
  refine j_callV X (As := [.int (iI (z))]) (st := [.int (iI (0)), .ref (o)]) hC.cal rfl (c_X3_late hlt hC hI z hzi) sv_L_79 (by decide) rfl (by first | decide | exact Nat.le_of_ble_eq_true rfl) dL_late_4 ⟨by decide, by decide⟩ (fun E w8 hE => ?_) ?_
  · skip
    obtain ⟨hk, rfl, rfl⟩ := hE
    refine j_catch X [] (⟨0, 9, 12, 15⟩ : ExceptionTableEntry) [] (htab.trans rfl) (fun z hz => absurd hz List.not_mem_nil) (by decide) (by decide) cl_L_15 (by decide) (fun q => ?_)
    have hx : ltC z = 1 := by unfold ltC; (repeat' split) <;> omega
    show J p l e (Rm 3 1 6) s m args below meth c (vx_MQ below (Qn D base (fun v w' => v = some (.int (iI (ltC z))) ∧ (ltC z = 0 → ∃ f, f 0 = (iI (sm (latc S z) 12)).toInt64 ∧ w' = wu w o (eLong ca f)) ∧ (ltC z ≠ 0 → w' = w))) (Xn D base (fun _ _ => False)) args s 1 6 (fun q => base ≤ q)) D base 4 1 6 12 [(0, .ref (ad 0 0)), (1, .int (iI (z))), (2, .ref (o))] [.ref (q)] w
    refine j_astore_n X (i := 3) dL_late_12 rfl (by decide) (q := 13) rfl (lv' := [(3, .ref (q)), (0, .ref (ad 0 0)), (1, .int (iI (z))), (2, .ref (o))]) (by first | rfl | simp [cat_rf, cat_i, cat_l, cat_r]) ?_
    refine j_iconst X (a := 1) dL_late_13 (q := 14) rfl ?_
    exact j_iret X rfl dL_late_14 (⟨by rw [hx], fun q => by rw [hx] at q; exact absurd q (by decide), fun _ => rfl⟩) (by decide) (by decide)
  · skip
    rintro v9 w9 ⟨hk, rfl, rfl⟩
    have hx : ltC z = 0 := by unfold ltC; (repeat' split) <;> omega
    have ho9 := ho
    refine j_st (st := [.int (iI (sm (latc S z) 12)), .int (iI (0)), .ref (o)]) ?_
    refine j_i2lR X dL_late_7 (q := 8) rfl ?_
    refine j_last X ho9 ⟨by decide, by decide⟩ (by decide) hbo dL_late_8 (q := 9) rfl ?_
    refine j_w (w' := (wu w o (eLong ca (va_up f0 (Int.toNat 0) (((iI (sm (latc S z) 12)).toInt64)))))) rfl ?_
    refine j_goto X (tgt := 15) dL_late_9 (by decide) ?_
    refine j_iconst X (a := 0) dL_late_15 (q := 16) rfl ?_
    exact j_iret X rfl dL_late_16 (⟨by rw [hx], fun _ => ⟨_, rfl, rfl⟩, fun q => absurd hx q⟩) (by decide) (by decide)

set_option maxRecDepth 100000 in
set_option maxHeartbeats 4000000 in
theorem c_L_benchDay {l : Launch} (hlt : l.stackTraces = false) {D : va_G} {ca : Nat → ClassId} {base : Nat} {ad : Nat → Int → Nat} {n nc nm : Int} {S : St} {w : Wd} (hC : CW base ca ad n nc nm S w) (hI : IC n nc nm S) (o : Nat) (f0 : Nat → Int64) (ho : w o = some (eLong ca f0)) (hbo : base ≤ o) (z : Int) (hzi : -2147483648 ≤ z ∧ z ≤ 2147483647) (e9 : Int) (he9i : -2147483648 ≤ e9 ∧ e9 ≤ 2147483647)  : CTW l D ca base yL_benchDay cL_benchDay 5 (some .int) [(0, 10, 13, 13), (0, 10, 17, 15)] 3 2 12 [.ref (ad 0 0), .int (iI (z)), .int (iI (e9)), .ref (o)] w (fun v w' => v = some (.int (iI (bdC n z e9))) ∧ (bdC n z e9 = 0 → ∃ f, f 0 = (iI (if S 15 z < 0 then -1 else S 7 0 + (ahd S z).tdiv e9)).toInt64 ∧ w' = wu w o (eLong ca f)) ∧ (bdC n z e9 ≠ 0 → w' = w)) := by
  obtain ⟨hn, hnc, hnm, e3, e4, e5, h6, h7, h8⟩ := hI.top
  refine CTW.mk hlt (by decide +kernel) (by first | exact Nat.le_of_ble_eq_true rfl | simp [lg_sl, cat_rf, cat_i, cat_l, cat_r]) ?_
  intro p e s m args below meth c X htab
  rw [show lv_args 0 [.ref (ad 0 0), .int (iI (z)), .int (iI (e9)), .ref (o)] = [(0, .ref (ad 0 0)), (1, .int (iI (z))), (2, .int (iI (e9))), (3, .ref (o))] from by first | rfl | simp [lv_args, cat_rf, cat_i, cat_l, cat_r]]
  refine j_aload_n X dL_benchDay_0 (q := 1) rfl 3 rfl ?_
  refine j_iconst X (a := 0) dL_benchDay_1 (q := 2) rfl ?_
  refine j_aload_n X dL_benchDay_2 (q := 3) rfl 0 rfl ?_
  refine j_iload_n X dL_benchDay_3 (q := 4) rfl 1 rfl ?_
  refine j_iload_n X dL_benchDay_4 (q := 5) rfl 2 rfl ?_
  refine j_callV X (As := [.int (iI (z)), .int (iI (e9))]) (st := [.int (iI (0)), .ref (o)]) hC.cal rfl (c_X3_benchDay hlt hC hI z hzi e9 he9i) sv_L_76 (by decide) rfl (by first | decide | exact Nat.le_of_ble_eq_true rfl) dL_benchDay_5 ⟨by decide, by decide⟩ (fun E w8 hE => ?_) ?_
  · skip
    obtain ⟨⟨hk, rfl⟩ | ⟨hk, hk2, rfl⟩, rfl⟩ := hE
    · skip
      refine j_catch X [] (⟨0, 10, 13, 13⟩ : ExceptionTableEntry) [(⟨0, 10, 17, 15⟩ : ExceptionTableEntry)] (htab.trans rfl) (fun z hz => absurd hz List.not_mem_nil) (by decide) (by decide) cl_L_13 (by decide) (fun q => ?_)
      have hx : bdC n z e9 = 1 := by unfold bdC; (repeat' split) <;> omega
      show J p l e (Rm 3 2 12) s m args below meth c (vx_MQ below (Qn D base (fun v w' => v = some (.int (iI (bdC n z e9))) ∧ (bdC n z e9 = 0 → ∃ f, f 0 = (iI (if S 15 z < 0 then -1 else S 7 0 + (ahd S z).tdiv e9)).toInt64 ∧ w' = wu w o (eLong ca f)) ∧ (bdC n z e9 ≠ 0 → w' = w))) (Xn D base (fun _ _ => False)) args s 2 12 (fun q => base ≤ q)) D base 5 2 12 13 [(0, .ref (ad 0 0)), (1, .int (iI (z))), (2, .int (iI (e9))), (3, .ref (o))] [.ref (q)] w
      refine j_astore X (i := 4) dL_benchDay_13 (by decide) (q := 15) rfl (lv' := [(4, .ref (q)), (0, .ref (ad 0 0)), (1, .int (iI (z))), (2, .int (iI (e9))), (3, .ref (o))]) (by first | rfl | simp [cat_rf, cat_i, cat_l, cat_r]) ?_
      refine j_iconst X (a := 1) dL_benchDay_15 (q := 16) rfl ?_
      exact j_iret X rfl dL_benchDay_16 (⟨by rw [hx], fun q => by rw [hx] at q; exact absurd q (by decide), fun _ => rfl⟩) (by decide) (by decide)
    · skip
      refine j_catch X [(⟨0, 10, 13, 13⟩ : ExceptionTableEntry)] (⟨0, 10, 17, 15⟩ : ExceptionTableEntry) [] (htab.trans rfl) (fun z hz => by rcases List.mem_singleton.mp hz with rfl; exact ⟨by decide, _, cl_L_13, by decide⟩) (by decide) (by decide) cl_L_15 (by decide) (fun q => ?_)
      have hx : bdC n z e9 = 2 := by unfold bdC; (repeat' split) <;> omega
      show J p l e (Rm 3 2 12) s m args below meth c (vx_MQ below (Qn D base (fun v w' => v = some (.int (iI (bdC n z e9))) ∧ (bdC n z e9 = 0 → ∃ f, f 0 = (iI (if S 15 z < 0 then -1 else S 7 0 + (ahd S z).tdiv e9)).toInt64 ∧ w' = wu w o (eLong ca f)) ∧ (bdC n z e9 ≠ 0 → w' = w))) (Xn D base (fun _ _ => False)) args s 2 12 (fun q => base ≤ q)) D base 5 2 12 17 [(0, .ref (ad 0 0)), (1, .int (iI (z))), (2, .int (iI (e9))), (3, .ref (o))] [.ref (q)] w
      refine j_astore X (i := 4) dL_benchDay_17 (by decide) (q := 19) rfl (lv' := [(4, .ref (q)), (0, .ref (ad 0 0)), (1, .int (iI (z))), (2, .int (iI (e9))), (3, .ref (o))]) (by first | rfl | simp [cat_rf, cat_i, cat_l, cat_r]) ?_
      refine j_iconst X (a := 2) dL_benchDay_19 (q := 20) rfl ?_
      exact j_iret X rfl dL_benchDay_20 (⟨by rw [hx], fun q => by rw [hx] at q; exact absurd q (by decide), fun _ => rfl⟩) (by decide) (by decide)
  · skip
    rintro v9 w9 ⟨⟨hk, hk2⟩, rfl, rfl⟩
    have hx : bdC n z e9 = 0 := by unfold bdC; (repeat' split) <;> omega
    have ho9 := ho
    refine j_st (st := [.int (iI (if S 15 z < 0 then -1 else S 7 0 + (ahd S z).tdiv e9)), .int (iI (0)), .ref (o)]) ?_
    refine j_i2lR X dL_benchDay_8 (q := 9) rfl ?_
    refine j_last X ho9 ⟨by decide, by decide⟩ (by decide) hbo dL_benchDay_9 (q := 10) rfl ?_
    refine j_w (w' := (wu w o (eLong ca (va_up f0 (Int.toNat 0) (((iI (if S 15 z < 0 then -1 else S 7 0 + (ahd S z).tdiv e9)).toInt64)))))) rfl ?_
    refine j_goto X (tgt := 21) dL_benchDay_10 (by decide) ?_
    refine j_iconst X (a := 0) dL_benchDay_21 (q := 22) rfl ?_
    exact j_iret X rfl dL_benchDay_22 (⟨by rw [hx], fun _ => ⟨_, rfl, rfl⟩, fun q => absurd hx q⟩) (by decide) (by decide)

set_option maxRecDepth 100000 in
set_option maxHeartbeats 4000000 in
theorem c_L_expected {l : Launch} (hlt : l.stackTraces = false) {D : va_G} {ca : Nat → ClassId} {base : Nat} {ad : Nat → Int → Nat} {n nc nm : Int} {S : St} {w : Wd} (hC : CW base ca ad n nc nm S w) (hI : IC n nc nm S) (o : Nat) (f0 : Nat → Int64) (ho : w o = some (eLong ca f0)) (hbo : base ≤ o) (z : Int) (hzi : -2147483648 ≤ z ∧ z ≤ 2147483647) (d : Int) (hdi : -2147483648 ≤ d ∧ d ≤ 2147483647)  : CTW l D ca base yL_expected cL_expected 5 (some .int) [(0, 9, 12, 13), (0, 9, 16, 15), (0, 9, 20, 17)] 3 2 12 [.ref (ad 0 0), .int (iI (z)), .int (iI (d)), .ref (o)] w (fun v w' => v = some (.int (iI (exK n S z d))) ∧ (exK n S z d = 0 → ∃ f, f 0 = iL (errS S z (S 15 z) d) ∧ w' = wu w o (eLong ca f)) ∧ (exK n S z d ≠ 0 → w' = w)) := by
  obtain ⟨hn, hnc, hnm, e3, e4, e5, h6, h7, h8⟩ := hI.top
  refine CTW.mk hlt (by decide +kernel) (by first | exact Nat.le_of_ble_eq_true rfl | simp [lg_sl, cat_rf, cat_i, cat_l, cat_r]) ?_
  intro p e s m args below meth c X htab
  rw [show lv_args 0 [.ref (ad 0 0), .int (iI (z)), .int (iI (d)), .ref (o)] = [(0, .ref (ad 0 0)), (1, .int (iI (z))), (2, .int (iI (d))), (3, .ref (o))] from by first | rfl | simp [lv_args, cat_rf, cat_i, cat_l, cat_r]]
  refine j_aload_n X dL_expected_0 (q := 1) rfl 3 rfl ?_
  refine j_iconst X (a := 0) dL_expected_1 (q := 2) rfl ?_
  refine j_aload_n X dL_expected_2 (q := 3) rfl 0 rfl ?_
  refine j_iload_n X dL_expected_3 (q := 4) rfl 1 rfl ?_
  refine j_iload_n X dL_expected_4 (q := 5) rfl 2 rfl ?_
  refine j_callV X (As := [.int (iI (z)), .int (iI (d))]) (st := [.int (iI (0)), .ref (o)]) hC.cal rfl (c_X3_expected hlt hC hI z hzi d hdi) sv_L_57 (by decide) rfl (by first | decide | exact Nat.le_of_ble_eq_true rfl) dL_expected_5 ⟨by decide, by decide⟩ (fun E w8 hE => ?_) ?_
  · skip
    obtain ⟨⟨hk, rfl⟩ | ⟨hk, hk2, rfl⟩ | ⟨hk, hk2, hk3, rfl⟩, rfl⟩ := hE
    · skip
      refine j_catch X [] (⟨0, 9, 12, 13⟩ : ExceptionTableEntry) [(⟨0, 9, 16, 15⟩ : ExceptionTableEntry), (⟨0, 9, 20, 17⟩ : ExceptionTableEntry)] (htab.trans rfl) (fun z hz => absurd hz List.not_mem_nil) (by decide) (by decide) cl_L_13 (by decide) (fun q => ?_)
      have hx : exK n S z d = 1 := by unfold exK; (repeat' split) <;> omega
      show J p l e (Rm 3 2 12) s m args below meth c (vx_MQ below (Qn D base (fun v w' => v = some (.int (iI (exK n S z d))) ∧ (exK n S z d = 0 → ∃ f, f 0 = iL (errS S z (S 15 z) d) ∧ w' = wu w o (eLong ca f)) ∧ (exK n S z d ≠ 0 → w' = w))) (Xn D base (fun _ _ => False)) args s 2 12 (fun q => base ≤ q)) D base 5 2 12 12 [(0, .ref (ad 0 0)), (1, .int (iI (z))), (2, .int (iI (d))), (3, .ref (o))] [.ref (q)] w
      refine j_astore X (i := 4) dL_expected_12 (by decide) (q := 14) rfl (lv' := [(4, .ref (q)), (0, .ref (ad 0 0)), (1, .int (iI (z))), (2, .int (iI (d))), (3, .ref (o))]) (by first | rfl | simp [cat_rf, cat_i, cat_l, cat_r]) ?_
      refine j_iconst X (a := 1) dL_expected_14 (q := 15) rfl ?_
      exact j_iret X rfl dL_expected_15 (⟨by rw [hx], fun q => by rw [hx] at q; exact absurd q (by decide), fun _ => rfl⟩) (by decide) (by decide)
    · skip
      refine j_catch X [(⟨0, 9, 12, 13⟩ : ExceptionTableEntry)] (⟨0, 9, 16, 15⟩ : ExceptionTableEntry) [(⟨0, 9, 20, 17⟩ : ExceptionTableEntry)] (htab.trans rfl) (fun z hz => by rcases List.mem_singleton.mp hz with rfl; exact ⟨by decide, _, cl_L_13, by decide⟩) (by decide) (by decide) cl_L_15 (by decide) (fun q => ?_)
      have hx : exK n S z d = 2 := by unfold exK; (repeat' split) <;> omega
      show J p l e (Rm 3 2 12) s m args below meth c (vx_MQ below (Qn D base (fun v w' => v = some (.int (iI (exK n S z d))) ∧ (exK n S z d = 0 → ∃ f, f 0 = iL (errS S z (S 15 z) d) ∧ w' = wu w o (eLong ca f)) ∧ (exK n S z d ≠ 0 → w' = w))) (Xn D base (fun _ _ => False)) args s 2 12 (fun q => base ≤ q)) D base 5 2 12 16 [(0, .ref (ad 0 0)), (1, .int (iI (z))), (2, .int (iI (d))), (3, .ref (o))] [.ref (q)] w
      refine j_astore X (i := 4) dL_expected_16 (by decide) (q := 18) rfl (lv' := [(4, .ref (q)), (0, .ref (ad 0 0)), (1, .int (iI (z))), (2, .int (iI (d))), (3, .ref (o))]) (by first | rfl | simp [cat_rf, cat_i, cat_l, cat_r]) ?_
      refine j_iconst X (a := 2) dL_expected_18 (q := 19) rfl ?_
      exact j_iret X rfl dL_expected_19 (⟨by rw [hx], fun q => by rw [hx] at q; exact absurd q (by decide), fun _ => rfl⟩) (by decide) (by decide)
    · skip
      refine j_catch X [(⟨0, 9, 12, 13⟩ : ExceptionTableEntry), (⟨0, 9, 16, 15⟩ : ExceptionTableEntry)] (⟨0, 9, 20, 17⟩ : ExceptionTableEntry) [] (htab.trans rfl) (fun z hz => by rcases List.mem_cons.mp hz with rfl | hz; exact ⟨by decide, _, cl_L_13, by decide⟩; rcases List.mem_singleton.mp hz with rfl; exact ⟨by decide, _, cl_L_15, by decide⟩) (by decide) (by decide) cl_L_17 (by decide) (fun q => ?_)
      have hx : exK n S z d = 3 := by unfold exK; (repeat' split) <;> omega
      show J p l e (Rm 3 2 12) s m args below meth c (vx_MQ below (Qn D base (fun v w' => v = some (.int (iI (exK n S z d))) ∧ (exK n S z d = 0 → ∃ f, f 0 = iL (errS S z (S 15 z) d) ∧ w' = wu w o (eLong ca f)) ∧ (exK n S z d ≠ 0 → w' = w))) (Xn D base (fun _ _ => False)) args s 2 12 (fun q => base ≤ q)) D base 5 2 12 20 [(0, .ref (ad 0 0)), (1, .int (iI (z))), (2, .int (iI (d))), (3, .ref (o))] [.ref (q)] w
      refine j_astore X (i := 4) dL_expected_20 (by decide) (q := 22) rfl (lv' := [(4, .ref (q)), (0, .ref (ad 0 0)), (1, .int (iI (z))), (2, .int (iI (d))), (3, .ref (o))]) (by first | rfl | simp [cat_rf, cat_i, cat_l, cat_r]) ?_
      refine j_iconst X (a := 3) dL_expected_22 (q := 23) rfl ?_
      exact j_iret X rfl dL_expected_23 (⟨by rw [hx], fun q => by rw [hx] at q; exact absurd q (by decide), fun _ => rfl⟩) (by decide) (by decide)
  · skip
    rintro v9 w9 ⟨⟨hk, hk2, hk3⟩, rfl, rfl⟩
    have hx : exK n S z d = 0 := by unfold exK; (repeat' split) <;> omega
    have ho9 := ho
    refine j_st (st := [.long (iL (errS S z (S 15 z) d)), .int (iI (0)), .ref (o)]) ?_
    refine j_last X ho9 ⟨by decide, by decide⟩ (by decide) hbo dL_expected_8 (q := 9) rfl ?_
    refine j_w (w' := (wu w o (eLong ca (va_up f0 (Int.toNat 0) ((iL (errS S z (S 15 z) d))))))) rfl ?_
    refine j_goto X (tgt := 24) dL_expected_9 (by decide) ?_
    refine j_iconst X (a := 0) dL_expected_24 (q := 25) rfl ?_
    exact j_iret X rfl dL_expected_25 (⟨by rw [hx], fun _ => ⟨_, rfl, rfl⟩, fun q => absurd hx q⟩) (by decide) (by decide)

set_option maxRecDepth 100000 in
set_option maxHeartbeats 4000000 in
theorem c_L_pass {l : Launch} (hlt : l.stackTraces = false) {D : va_G} {ca : Nat → ClassId} {base : Nat} {ad : Nat → Int → Nat} {n nc nm : Int} {S : St} {w : Wd} (hC : CW base ca ad n nc nm S w) (hI : IC n nc nm S) (o : Nat) (f0 : Nat → Int64) (ho : w o = some (eLong ca f0)) (hbo : base ≤ o) (z : Int) (hzi : -2147483648 ≤ z ∧ z ≤ 2147483647)  : CTW l D ca base yL_pass cL_pass 4 (some .int) [(0, 9, 12, 15)] 1 1 6 [.ref (ad 0 0), .int (iI (z)), .ref (o)] w (fun v w' => v = some (.int (iI (psC z))) ∧ (psC z = 0 → ∃ w1 f, CW base ca ad n nc nm (up S 7 0 (S 7 0 + z)) w1 ∧ Fr 0 w w1 ∧ f 0 = (iI (S 7 0 + z)).toInt64 ∧ w' = wu w1 o (eLong ca f)) ∧ (psC z ≠ 0 → w' = w)) := by
  obtain ⟨hn, hnc, hnm, e3, e4, e5, h6, h7, h8⟩ := hI.top
  refine CTW.mk hlt (by decide +kernel) (by first | exact Nat.le_of_ble_eq_true rfl | simp [lg_sl, cat_rf, cat_i, cat_l, cat_r]) ?_
  intro p e s m args below meth c X htab
  rw [show lv_args 0 [.ref (ad 0 0), .int (iI (z)), .ref (o)] = [(0, .ref (ad 0 0)), (1, .int (iI (z))), (2, .ref (o))] from by first | rfl | simp [lv_args, cat_rf, cat_i, cat_l, cat_r]]
  refine j_aload_n X dL_pass_0 (q := 1) rfl 2 rfl ?_
  refine j_iconst X (a := 0) dL_pass_1 (q := 2) rfl ?_
  refine j_aload_n X dL_pass_2 (q := 3) rfl 0 rfl ?_
  refine j_iload_n X dL_pass_3 (q := 4) rfl 1 rfl ?_
  refine j_callV X (As := [.int (iI (z))]) (st := [.int (iI (0)), .ref (o)]) hC.cal rfl (c_X3_pass hlt hC hI z hzi) sv_L_23 (by decide) rfl (by first | decide | exact Nat.le_of_ble_eq_true rfl) dL_pass_4 ⟨by decide, by decide⟩ (fun E w8 hE => ?_) ?_
  · skip
    obtain ⟨hk, rfl, rfl⟩ := hE
    refine j_catch X [] (⟨0, 9, 12, 15⟩ : ExceptionTableEntry) [] (htab.trans rfl) (fun z hz => absurd hz List.not_mem_nil) (by decide) (by decide) cl_L_15 (by decide) (fun q => ?_)
    have hx : psC z = 1 := by unfold psC; (repeat' split) <;> omega
    show J p l e (Rm 1 1 6) s m args below meth c (vx_MQ below (Qn D base (fun v w' => v = some (.int (iI (psC z))) ∧ (psC z = 0 → ∃ w1 f, CW base ca ad n nc nm (up S 7 0 (S 7 0 + z)) w1 ∧ Fr 0 w w1 ∧ f 0 = (iI (S 7 0 + z)).toInt64 ∧ w' = wu w1 o (eLong ca f)) ∧ (psC z ≠ 0 → w' = w))) (Xn D base (fun _ _ => False)) args s 1 6 (fun q => base ≤ q)) D base 4 1 6 12 [(0, .ref (ad 0 0)), (1, .int (iI (z))), (2, .ref (o))] [.ref (q)] w
    refine j_astore_n X (i := 3) dL_pass_12 rfl (by decide) (q := 13) rfl (lv' := [(3, .ref (q)), (0, .ref (ad 0 0)), (1, .int (iI (z))), (2, .ref (o))]) (by first | rfl | simp [cat_rf, cat_i, cat_l, cat_r]) ?_
    refine j_iconst X (a := 1) dL_pass_13 (q := 14) rfl ?_
    exact j_iret X rfl dL_pass_14 (⟨by rw [hx], fun q => by rw [hx] at q; exact absurd q (by decide), fun _ => rfl⟩) (by decide) (by decide)
  · skip
    rintro v9 w9 ⟨hk, rfl, hC9, hF9⟩
    have hx : psC z = 0 := by unfold psC; (repeat' split) <;> omega
    have ho9 : w9 o = some (eLong ca f0) := hF9 _ _ ho (by show (2 : Nat) ≠ 0; decide)
    refine j_st (st := [.int (iI (S 7 0 + z)), .int (iI (0)), .ref (o)]) ?_
    refine j_i2lR X dL_pass_7 (q := 8) rfl ?_
    refine j_last X ho9 ⟨by decide, by decide⟩ (by decide) hbo dL_pass_8 (q := 9) rfl ?_
    refine j_w (w' := (wu w9 o (eLong ca (va_up f0 (Int.toNat 0) (((iI (S 7 0 + z)).toInt64)))))) rfl ?_
    refine j_goto X (tgt := 15) dL_pass_9 (by decide) ?_
    refine j_iconst X (a := 0) dL_pass_15 (q := 16) rfl ?_
    exact j_iret X rfl dL_pass_16 (⟨by rw [hx], fun _ => ⟨w9, _, hC9, hF9, rfl, rfl⟩, fun q => absurd hx q⟩) (by decide) (by decide)

set_option maxRecDepth 100000 in
set_option maxHeartbeats 4000000 in
theorem c_L_refer {l : Launch} (hlt : l.stackTraces = false) {D : va_G} {ca : Nat → ClassId} {base : Nat} {ad : Nat → Int → Nat} {n nc nm : Int} {S : St} {w : Wd} (hC : CW base ca ad n nc nm S w) (hI : IC n nc nm S) (o : Nat) (f0 : Nat → Int64) (ho : w o = some (eLong ca f0)) (hbo : base ≤ o) (z : Int) (hzi : -2147483648 ≤ z ∧ z ≤ 2147483647) (r : Int) (hri : -2147483648 ≤ r ∧ r ≤ 2147483647)  : CTW l D ca base yL_refer cL_refer 5 (some .int) [(0, 10, 13, 13), (0, 10, 17, 17)] 3 3 18 [.ref (ad 0 0), .int (iI (z)), .int (iI (r)), .ref (o)] w (fun v w' => v = some (.int (iI (rfK n S z r))) ∧ (rfK n S z r = 0 → ∃ w1 f, CW base ca ad n nc nm (up S 14 z r) w1 ∧ Fr 0 w w1 ∧ f 0 = (iI (S 14 z)).toInt64 ∧ w' = wu w1 o (eLong ca f)) ∧ (rfK n S z r ≠ 0 → w' = w)) := by
  obtain ⟨hn, hnc, hnm, e3, e4, e5, h6, h7, h8⟩ := hI.top
  refine CTW.mk hlt (by decide +kernel) (by first | exact Nat.le_of_ble_eq_true rfl | simp [lg_sl, cat_rf, cat_i, cat_l, cat_r]) ?_
  intro p e s m args below meth c X htab
  rw [show lv_args 0 [.ref (ad 0 0), .int (iI (z)), .int (iI (r)), .ref (o)] = [(0, .ref (ad 0 0)), (1, .int (iI (z))), (2, .int (iI (r))), (3, .ref (o))] from by first | rfl | simp [lv_args, cat_rf, cat_i, cat_l, cat_r]]
  refine j_aload_n X dL_refer_0 (q := 1) rfl 3 rfl ?_
  refine j_iconst X (a := 0) dL_refer_1 (q := 2) rfl ?_
  refine j_aload_n X dL_refer_2 (q := 3) rfl 0 rfl ?_
  refine j_iload_n X dL_refer_3 (q := 4) rfl 1 rfl ?_
  refine j_iload_n X dL_refer_4 (q := 5) rfl 2 rfl ?_
  refine j_callV X (As := [.int (iI (z)), .int (iI (r))]) (st := [.int (iI (0)), .ref (o)]) hC.cal rfl (c_X3_refer hlt hC hI z r hzi hri) sv_L_19 (by decide) rfl (by first | decide | exact Nat.le_of_ble_eq_true rfl) dL_refer_5 ⟨by decide, by decide⟩ (fun E w8 hE => ?_) ?_
  · skip
    obtain ⟨⟨hk, rfl⟩ | ⟨hk, hk2, rfl⟩, rfl⟩ := hE
    · skip
      refine j_catch X [] (⟨0, 10, 13, 13⟩ : ExceptionTableEntry) [(⟨0, 10, 17, 17⟩ : ExceptionTableEntry)] (htab.trans rfl) (fun z hz => absurd hz List.not_mem_nil) (by decide) (by decide) cl_L_13 (by decide) (fun q => ?_)
      have hx : rfK n S z r = 1 := by unfold rfK; (repeat' split) <;> omega
      show J p l e (Rm 3 3 18) s m args below meth c (vx_MQ below (Qn D base (fun v w' => v = some (.int (iI (rfK n S z r))) ∧ (rfK n S z r = 0 → ∃ w1 f, CW base ca ad n nc nm (up S 14 z r) w1 ∧ Fr 0 w w1 ∧ f 0 = (iI (S 14 z)).toInt64 ∧ w' = wu w1 o (eLong ca f)) ∧ (rfK n S z r ≠ 0 → w' = w))) (Xn D base (fun _ _ => False)) args s 3 18 (fun q => base ≤ q)) D base 5 3 18 13 [(0, .ref (ad 0 0)), (1, .int (iI (z))), (2, .int (iI (r))), (3, .ref (o))] [.ref (q)] w
      refine j_astore X (i := 4) dL_refer_13 (by decide) (q := 15) rfl (lv' := [(4, .ref (q)), (0, .ref (ad 0 0)), (1, .int (iI (z))), (2, .int (iI (r))), (3, .ref (o))]) (by first | rfl | simp [cat_rf, cat_i, cat_l, cat_r]) ?_
      refine j_iconst X (a := 1) dL_refer_15 (q := 16) rfl ?_
      exact j_iret X rfl dL_refer_16 (⟨by rw [hx], fun q => by rw [hx] at q; exact absurd q (by decide), fun _ => rfl⟩) (by decide) (by decide)
    · skip
      refine j_catch X [(⟨0, 10, 13, 13⟩ : ExceptionTableEntry)] (⟨0, 10, 17, 17⟩ : ExceptionTableEntry) [] (htab.trans rfl) (fun z hz => by rcases List.mem_singleton.mp hz with rfl; exact ⟨by decide, _, cl_L_13, by decide⟩) (by decide) (by decide) cl_L_17 (by decide) (fun q => ?_)
      have hx : rfK n S z r = 2 := by unfold rfK; (repeat' split) <;> omega
      show J p l e (Rm 3 3 18) s m args below meth c (vx_MQ below (Qn D base (fun v w' => v = some (.int (iI (rfK n S z r))) ∧ (rfK n S z r = 0 → ∃ w1 f, CW base ca ad n nc nm (up S 14 z r) w1 ∧ Fr 0 w w1 ∧ f 0 = (iI (S 14 z)).toInt64 ∧ w' = wu w1 o (eLong ca f)) ∧ (rfK n S z r ≠ 0 → w' = w))) (Xn D base (fun _ _ => False)) args s 3 18 (fun q => base ≤ q)) D base 5 3 18 17 [(0, .ref (ad 0 0)), (1, .int (iI (z))), (2, .int (iI (r))), (3, .ref (o))] [.ref (q)] w
      refine j_astore X (i := 4) dL_refer_17 (by decide) (q := 19) rfl (lv' := [(4, .ref (q)), (0, .ref (ad 0 0)), (1, .int (iI (z))), (2, .int (iI (r))), (3, .ref (o))]) (by first | rfl | simp [cat_rf, cat_i, cat_l, cat_r]) ?_
      refine j_iconst X (a := 2) dL_refer_19 (q := 20) rfl ?_
      exact j_iret X rfl dL_refer_20 (⟨by rw [hx], fun q => by rw [hx] at q; exact absurd q (by decide), fun _ => rfl⟩) (by decide) (by decide)
  · skip
    rintro v9 w9 ⟨⟨hk, hk2, hk3⟩, rfl, hC9, hF9⟩
    have hx : rfK n S z r = 0 := by unfold rfK; (repeat' split) <;> omega
    have ho9 : w9 o = some (eLong ca f0) := hF9 _ _ ho (by show (2 : Nat) ≠ 0; decide)
    refine j_st (st := [.int (iI (S 14 z)), .int (iI (0)), .ref (o)]) ?_
    refine j_i2lR X dL_refer_8 (q := 9) rfl ?_
    refine j_last X ho9 ⟨by decide, by decide⟩ (by decide) hbo dL_refer_9 (q := 10) rfl ?_
    refine j_w (w' := (wu w9 o (eLong ca (va_up f0 (Int.toNat 0) (((iI (S 14 z)).toInt64)))))) rfl ?_
    refine j_goto X (tgt := 21) dL_refer_10 (by decide) ?_
    refine j_iconst X (a := 0) dL_refer_21 (q := 22) rfl ?_
    exact j_iret X rfl dL_refer_22 (⟨by rw [hx], fun _ => ⟨w9, _, hC9, hF9, rfl, rfl⟩, fun q => absurd hx q⟩) (by decide) (by decide)

set_option maxRecDepth 100000 in
set_option maxHeartbeats 4000000 in
theorem c_L_tell {l : Launch} (hlt : l.stackTraces = false) {D : va_G} {ca : Nat → ClassId} {base : Nat} {ad : Nat → Int → Nat} {n nc nm : Int} {S : St} {w : Wd} (hC : CW base ca ad n nc nm S w) (hI : IC n nc nm S) (o : Nat) (f0 : Nat → Int64) (ho : w o = some (eLong ca f0)) (hbo : base ≤ o) (r : Int) (hri : -2147483648 ≤ r ∧ r ≤ 2147483647) (t : Int) (hti : -2147483648 ≤ t ∧ t ≤ 2147483647) (u : Int) (hui : -2147483648 ≤ u ∧ u ≤ 2147483647) (v9 : Int) (hv9i : -2147483648 ≤ v9 ∧ v9 ≤ 2147483647)  : CTW l D ca base yL_tell cL_tell 7 (some .int) [(0, 14, 17, 13), (0, 14, 21, 15), (0, 14, 25, 17)] 3 3 24 [.ref (ad 0 0), .int (iI (r)), .int (iI (t)), .int (iI (u)), .int (iI (v9)), .ref (o)] w (fun v w' => v = some (.int (iI (tlC n r t u v9))) ∧ (tlC n r t u v9 = 0 → ∃ w1 f, (∃ ad', CW base ca ad' (n + 1) nc nm (tlS S n t u v9 r) w1 ∧ ad' 0 0 = ad 0 0) ∧ Fr 0 w w1 ∧ f 0 = (iI (n)).toInt64 ∧ w' = wu w1 o (eLong ca f)) ∧ (tlC n r t u v9 ≠ 0 → w' = w)) := by
  obtain ⟨hn, hnc, hnm, e3, e4, e5, h6, h7, h8⟩ := hI.top
  refine CTW.mk hlt (by decide +kernel) (by first | exact Nat.le_of_ble_eq_true rfl | simp [lg_sl, cat_rf, cat_i, cat_l, cat_r]) ?_
  intro p e s m args below meth c X htab
  rw [show lv_args 0 [.ref (ad 0 0), .int (iI (r)), .int (iI (t)), .int (iI (u)), .int (iI (v9)), .ref (o)] = [(0, .ref (ad 0 0)), (1, .int (iI (r))), (2, .int (iI (t))), (3, .int (iI (u))), (4, .int (iI (v9))), (5, .ref (o))] from by first | rfl | simp [lv_args, cat_rf, cat_i, cat_l, cat_r]]
  refine j_aload X dL_tell_0 (q := 2) rfl 5 rfl ?_
  refine j_iconst X (a := 0) dL_tell_2 (q := 3) rfl ?_
  refine j_aload_n X dL_tell_3 (q := 4) rfl 0 rfl ?_
  refine j_iload_n X dL_tell_4 (q := 5) rfl 1 rfl ?_
  refine j_iload_n X dL_tell_5 (q := 6) rfl 2 rfl ?_
  refine j_iload_n X dL_tell_6 (q := 7) rfl 3 rfl ?_
  refine j_iload X dL_tell_7 (q := 9) rfl 4 rfl ?_
  refine j_callV X (As := [.int (iI (r)), .int (iI (t)), .int (iI (u)), .int (iI (v9))]) (st := [.int (iI (0)), .ref (o)]) hC.cal rfl (c_X3_tell hlt hC hI r t u v9 hri hti hui hv9i) sv_L_7 (by decide) rfl (by first | decide | exact Nat.le_of_ble_eq_true rfl) dL_tell_9 ⟨by decide, by decide⟩ (fun E w8 hE => ?_) ?_
  · skip
    obtain ⟨⟨hk, rfl⟩ | ⟨hk, hk2, rfl⟩ | ⟨hk, hk2, hk3, rfl⟩, rfl⟩ := hE
    · skip
      refine j_catch X [] (⟨0, 14, 17, 13⟩ : ExceptionTableEntry) [(⟨0, 14, 21, 15⟩ : ExceptionTableEntry), (⟨0, 14, 25, 17⟩ : ExceptionTableEntry)] (htab.trans rfl) (fun z hz => absurd hz List.not_mem_nil) (by decide) (by decide) cl_L_13 (by decide) (fun q => ?_)
      have hx : tlC n r t u v9 = 1 := by unfold tlC; (repeat' split) <;> omega
      show J p l e (Rm 3 3 24) s m args below meth c (vx_MQ below (Qn D base (fun v w' => v = some (.int (iI (tlC n r t u v9))) ∧ (tlC n r t u v9 = 0 → ∃ w1 f, (∃ ad', CW base ca ad' (n + 1) nc nm (tlS S n t u v9 r) w1 ∧ ad' 0 0 = ad 0 0) ∧ Fr 0 w w1 ∧ f 0 = (iI (n)).toInt64 ∧ w' = wu w1 o (eLong ca f)) ∧ (tlC n r t u v9 ≠ 0 → w' = w))) (Xn D base (fun _ _ => False)) args s 3 24 (fun q => base ≤ q)) D base 7 3 24 17 [(0, .ref (ad 0 0)), (1, .int (iI (r))), (2, .int (iI (t))), (3, .int (iI (u))), (4, .int (iI (v9))), (5, .ref (o))] [.ref (q)] w
      refine j_astore X (i := 6) dL_tell_17 (by decide) (q := 19) rfl (lv' := [(6, .ref (q)), (0, .ref (ad 0 0)), (1, .int (iI (r))), (2, .int (iI (t))), (3, .int (iI (u))), (4, .int (iI (v9))), (5, .ref (o))]) (by first | rfl | simp [cat_rf, cat_i, cat_l, cat_r]) ?_
      refine j_iconst X (a := 1) dL_tell_19 (q := 20) rfl ?_
      exact j_iret X rfl dL_tell_20 (⟨by rw [hx], fun q => by rw [hx] at q; exact absurd q (by decide), fun _ => rfl⟩) (by decide) (by decide)
    · skip
      refine j_catch X [(⟨0, 14, 17, 13⟩ : ExceptionTableEntry)] (⟨0, 14, 21, 15⟩ : ExceptionTableEntry) [(⟨0, 14, 25, 17⟩ : ExceptionTableEntry)] (htab.trans rfl) (fun z hz => by rcases List.mem_singleton.mp hz with rfl; exact ⟨by decide, _, cl_L_13, by decide⟩) (by decide) (by decide) cl_L_15 (by decide) (fun q => ?_)
      have hx : tlC n r t u v9 = 2 := by unfold tlC; (repeat' split) <;> omega
      show J p l e (Rm 3 3 24) s m args below meth c (vx_MQ below (Qn D base (fun v w' => v = some (.int (iI (tlC n r t u v9))) ∧ (tlC n r t u v9 = 0 → ∃ w1 f, (∃ ad', CW base ca ad' (n + 1) nc nm (tlS S n t u v9 r) w1 ∧ ad' 0 0 = ad 0 0) ∧ Fr 0 w w1 ∧ f 0 = (iI (n)).toInt64 ∧ w' = wu w1 o (eLong ca f)) ∧ (tlC n r t u v9 ≠ 0 → w' = w))) (Xn D base (fun _ _ => False)) args s 3 24 (fun q => base ≤ q)) D base 7 3 24 21 [(0, .ref (ad 0 0)), (1, .int (iI (r))), (2, .int (iI (t))), (3, .int (iI (u))), (4, .int (iI (v9))), (5, .ref (o))] [.ref (q)] w
      refine j_astore X (i := 6) dL_tell_21 (by decide) (q := 23) rfl (lv' := [(6, .ref (q)), (0, .ref (ad 0 0)), (1, .int (iI (r))), (2, .int (iI (t))), (3, .int (iI (u))), (4, .int (iI (v9))), (5, .ref (o))]) (by first | rfl | simp [cat_rf, cat_i, cat_l, cat_r]) ?_
      refine j_iconst X (a := 2) dL_tell_23 (q := 24) rfl ?_
      exact j_iret X rfl dL_tell_24 (⟨by rw [hx], fun q => by rw [hx] at q; exact absurd q (by decide), fun _ => rfl⟩) (by decide) (by decide)
    · skip
      refine j_catch X [(⟨0, 14, 17, 13⟩ : ExceptionTableEntry), (⟨0, 14, 21, 15⟩ : ExceptionTableEntry)] (⟨0, 14, 25, 17⟩ : ExceptionTableEntry) [] (htab.trans rfl) (fun z hz => by rcases List.mem_cons.mp hz with rfl | hz; exact ⟨by decide, _, cl_L_13, by decide⟩; rcases List.mem_singleton.mp hz with rfl; exact ⟨by decide, _, cl_L_15, by decide⟩) (by decide) (by decide) cl_L_17 (by decide) (fun q => ?_)
      have hx : tlC n r t u v9 = 3 := by unfold tlC; (repeat' split) <;> omega
      show J p l e (Rm 3 3 24) s m args below meth c (vx_MQ below (Qn D base (fun v w' => v = some (.int (iI (tlC n r t u v9))) ∧ (tlC n r t u v9 = 0 → ∃ w1 f, (∃ ad', CW base ca ad' (n + 1) nc nm (tlS S n t u v9 r) w1 ∧ ad' 0 0 = ad 0 0) ∧ Fr 0 w w1 ∧ f 0 = (iI (n)).toInt64 ∧ w' = wu w1 o (eLong ca f)) ∧ (tlC n r t u v9 ≠ 0 → w' = w))) (Xn D base (fun _ _ => False)) args s 3 24 (fun q => base ≤ q)) D base 7 3 24 25 [(0, .ref (ad 0 0)), (1, .int (iI (r))), (2, .int (iI (t))), (3, .int (iI (u))), (4, .int (iI (v9))), (5, .ref (o))] [.ref (q)] w
      refine j_astore X (i := 6) dL_tell_25 (by decide) (q := 27) rfl (lv' := [(6, .ref (q)), (0, .ref (ad 0 0)), (1, .int (iI (r))), (2, .int (iI (t))), (3, .int (iI (u))), (4, .int (iI (v9))), (5, .ref (o))]) (by first | rfl | simp [cat_rf, cat_i, cat_l, cat_r]) ?_
      refine j_iconst X (a := 3) dL_tell_27 (q := 28) rfl ?_
      exact j_iret X rfl dL_tell_28 (⟨by rw [hx], fun q => by rw [hx] at q; exact absurd q (by decide), fun _ => rfl⟩) (by decide) (by decide)
  · skip
    rintro v9 w9 ⟨⟨hk, hk2, hk3⟩, rfl, hC9, hF9⟩
    have hx : tlC n r t u v9 = 0 := by unfold tlC; (repeat' split) <;> omega
    have ho9 : w9 o = some (eLong ca f0) := hF9 _ _ ho (by show (2 : Nat) ≠ 0; decide)
    refine j_st (st := [.int (iI (n)), .int (iI (0)), .ref (o)]) ?_
    refine j_i2lR X dL_tell_12 (q := 13) rfl ?_
    refine j_last X ho9 ⟨by decide, by decide⟩ (by decide) hbo dL_tell_13 (q := 14) rfl ?_
    refine j_w (w' := (wu w9 o (eLong ca (va_up f0 (Int.toNat 0) (((iI (n)).toInt64)))))) rfl ?_
    refine j_goto X (tgt := 29) dL_tell_14 (by decide) ?_
    refine j_iconst X (a := 0) dL_tell_29 (q := 30) rfl ?_
    exact j_iret X rfl dL_tell_30 (⟨by rw [hx], fun _ => ⟨w9, _, hC9, hF9, rfl, rfl⟩, fun q => absurd hx q⟩) (by decide) (by decide)

set_option maxRecDepth 100000 in
set_option maxHeartbeats 4000000 in
theorem c_L_calibrate {l : Launch} (hlt : l.stackTraces = false) {D : va_G} {ca : Nat → ClassId} {base : Nat} {ad : Nat → Int → Nat} {n nc nm : Int} {S : St} {w : Wd} (hC : CW base ca ad n nc nm S w) (hI : IC n nc nm S) (o : Nat) (f0 : Nat → Int64) (ho : w o = some (eLong ca f0)) (hbo : base ≤ o) (z : Int) (hzi : -2147483648 ≤ z ∧ z ≤ 2147483647) (x : Int) (hxi : -2147483648 ≤ x ∧ x ≤ 2147483647) (lf : Int) (hlfi : -2147483648 ≤ lf ∧ lf ≤ 2147483647) (hlc : nc < 512) (h5 : S 5 0 = nc) (h16 : ∀ i, 0 ≤ i → i < n → S 16 i ≤ 511) : CTW l D ca base yL_calibrate cL_calibrate 6 (some .int) [(0, 12, 15, 13), (0, 12, 19, 15), (0, 12, 23, 17)] 6 3 30 [.ref (ad 0 0), .int (iI (z)), .int (iI (x)), .int (iI (lf)), .ref (o)] w (fun v w' => v = some (.int (iI (kaK n S z x lf))) ∧ (kaK n S z x lf = 0 → ∃ w1 f, (∃ ad', CW base ca ad' n (nc + 1) nm (kaS S nc nm z x lf) w1 ∧ ad' 0 0 = ad 0 0) ∧ Fr 0 w w1 ∧ f 0 = (iI (kaR S nc nm z x lf)).toInt64 ∧ w' = wu w1 o (eLong ca f)) ∧ (kaK n S z x lf ≠ 0 → w' = w)) := by
  obtain ⟨hn, hnc, hnm, e3, e4, e5, h6, h7, h8⟩ := hI.top
  refine CTW.mk hlt (by decide +kernel) (by first | exact Nat.le_of_ble_eq_true rfl | simp [lg_sl, cat_rf, cat_i, cat_l, cat_r]) ?_
  intro p e s m args below meth c X htab
  rw [show lv_args 0 [.ref (ad 0 0), .int (iI (z)), .int (iI (x)), .int (iI (lf)), .ref (o)] = [(0, .ref (ad 0 0)), (1, .int (iI (z))), (2, .int (iI (x))), (3, .int (iI (lf))), (4, .ref (o))] from by first | rfl | simp [lv_args, cat_rf, cat_i, cat_l, cat_r]]
  refine j_aload X dL_calibrate_0 (q := 2) rfl 4 rfl ?_
  refine j_iconst X (a := 0) dL_calibrate_2 (q := 3) rfl ?_
  refine j_aload_n X dL_calibrate_3 (q := 4) rfl 0 rfl ?_
  refine j_iload_n X dL_calibrate_4 (q := 5) rfl 1 rfl ?_
  refine j_iload_n X dL_calibrate_5 (q := 6) rfl 2 rfl ?_
  refine j_iload_n X dL_calibrate_6 (q := 7) rfl 3 rfl ?_
  refine j_callV X (As := [.int (iI (z)), .int (iI (x)), .int (iI (lf))]) (st := [.int (iI (0)), .ref (o)]) hC.cal rfl (c_X3_calibrate hlt hC hI z hzi x lf hxi hlfi hlc h5 h16) sv_L_27 (by decide) rfl (by first | decide | exact Nat.le_of_ble_eq_true rfl) dL_calibrate_7 ⟨by decide, by decide⟩ (fun E w8 hE => ?_) ?_
  · skip
    obtain ⟨⟨hk, rfl⟩ | ⟨hk, hk2, rfl⟩ | ⟨hk, hk2, hk3, rfl⟩, rfl⟩ := hE
    · skip
      refine j_catch X [] (⟨0, 12, 15, 13⟩ : ExceptionTableEntry) [(⟨0, 12, 19, 15⟩ : ExceptionTableEntry), (⟨0, 12, 23, 17⟩ : ExceptionTableEntry)] (htab.trans rfl) (fun z hz => absurd hz List.not_mem_nil) (by decide) (by decide) cl_L_13 (by decide) (fun q => ?_)
      have hx : kaK n S z x lf = 1 := by unfold kaK; (repeat' split) <;> omega
      show J p l e (Rm 6 3 30) s m args below meth c (vx_MQ below (Qn D base (fun v w' => v = some (.int (iI (kaK n S z x lf))) ∧ (kaK n S z x lf = 0 → ∃ w1 f, (∃ ad', CW base ca ad' n (nc + 1) nm (kaS S nc nm z x lf) w1 ∧ ad' 0 0 = ad 0 0) ∧ Fr 0 w w1 ∧ f 0 = (iI (kaR S nc nm z x lf)).toInt64 ∧ w' = wu w1 o (eLong ca f)) ∧ (kaK n S z x lf ≠ 0 → w' = w))) (Xn D base (fun _ _ => False)) args s 3 30 (fun q => base ≤ q)) D base 6 3 30 15 [(0, .ref (ad 0 0)), (1, .int (iI (z))), (2, .int (iI (x))), (3, .int (iI (lf))), (4, .ref (o))] [.ref (q)] w
      refine j_astore X (i := 5) dL_calibrate_15 (by decide) (q := 17) rfl (lv' := [(5, .ref (q)), (0, .ref (ad 0 0)), (1, .int (iI (z))), (2, .int (iI (x))), (3, .int (iI (lf))), (4, .ref (o))]) (by first | rfl | simp [cat_rf, cat_i, cat_l, cat_r]) ?_
      refine j_iconst X (a := 1) dL_calibrate_17 (q := 18) rfl ?_
      exact j_iret X rfl dL_calibrate_18 (⟨by rw [hx], fun q => by rw [hx] at q; exact absurd q (by decide), fun _ => rfl⟩) (by decide) (by decide)
    · skip
      refine j_catch X [(⟨0, 12, 15, 13⟩ : ExceptionTableEntry)] (⟨0, 12, 19, 15⟩ : ExceptionTableEntry) [(⟨0, 12, 23, 17⟩ : ExceptionTableEntry)] (htab.trans rfl) (fun z hz => by rcases List.mem_singleton.mp hz with rfl; exact ⟨by decide, _, cl_L_13, by decide⟩) (by decide) (by decide) cl_L_15 (by decide) (fun q => ?_)
      have hx : kaK n S z x lf = 2 := by unfold kaK; (repeat' split) <;> omega
      show J p l e (Rm 6 3 30) s m args below meth c (vx_MQ below (Qn D base (fun v w' => v = some (.int (iI (kaK n S z x lf))) ∧ (kaK n S z x lf = 0 → ∃ w1 f, (∃ ad', CW base ca ad' n (nc + 1) nm (kaS S nc nm z x lf) w1 ∧ ad' 0 0 = ad 0 0) ∧ Fr 0 w w1 ∧ f 0 = (iI (kaR S nc nm z x lf)).toInt64 ∧ w' = wu w1 o (eLong ca f)) ∧ (kaK n S z x lf ≠ 0 → w' = w))) (Xn D base (fun _ _ => False)) args s 3 30 (fun q => base ≤ q)) D base 6 3 30 19 [(0, .ref (ad 0 0)), (1, .int (iI (z))), (2, .int (iI (x))), (3, .int (iI (lf))), (4, .ref (o))] [.ref (q)] w
      refine j_astore X (i := 5) dL_calibrate_19 (by decide) (q := 21) rfl (lv' := [(5, .ref (q)), (0, .ref (ad 0 0)), (1, .int (iI (z))), (2, .int (iI (x))), (3, .int (iI (lf))), (4, .ref (o))]) (by first | rfl | simp [cat_rf, cat_i, cat_l, cat_r]) ?_
      refine j_iconst X (a := 2) dL_calibrate_21 (q := 22) rfl ?_
      exact j_iret X rfl dL_calibrate_22 (⟨by rw [hx], fun q => by rw [hx] at q; exact absurd q (by decide), fun _ => rfl⟩) (by decide) (by decide)
    · skip
      refine j_catch X [(⟨0, 12, 15, 13⟩ : ExceptionTableEntry), (⟨0, 12, 19, 15⟩ : ExceptionTableEntry)] (⟨0, 12, 23, 17⟩ : ExceptionTableEntry) [] (htab.trans rfl) (fun z hz => by rcases List.mem_cons.mp hz with rfl | hz; exact ⟨by decide, _, cl_L_13, by decide⟩; rcases List.mem_singleton.mp hz with rfl; exact ⟨by decide, _, cl_L_15, by decide⟩) (by decide) (by decide) cl_L_17 (by decide) (fun q => ?_)
      have hx : kaK n S z x lf = 3 := by unfold kaK; (repeat' split) <;> omega
      show J p l e (Rm 6 3 30) s m args below meth c (vx_MQ below (Qn D base (fun v w' => v = some (.int (iI (kaK n S z x lf))) ∧ (kaK n S z x lf = 0 → ∃ w1 f, (∃ ad', CW base ca ad' n (nc + 1) nm (kaS S nc nm z x lf) w1 ∧ ad' 0 0 = ad 0 0) ∧ Fr 0 w w1 ∧ f 0 = (iI (kaR S nc nm z x lf)).toInt64 ∧ w' = wu w1 o (eLong ca f)) ∧ (kaK n S z x lf ≠ 0 → w' = w))) (Xn D base (fun _ _ => False)) args s 3 30 (fun q => base ≤ q)) D base 6 3 30 23 [(0, .ref (ad 0 0)), (1, .int (iI (z))), (2, .int (iI (x))), (3, .int (iI (lf))), (4, .ref (o))] [.ref (q)] w
      refine j_astore X (i := 5) dL_calibrate_23 (by decide) (q := 25) rfl (lv' := [(5, .ref (q)), (0, .ref (ad 0 0)), (1, .int (iI (z))), (2, .int (iI (x))), (3, .int (iI (lf))), (4, .ref (o))]) (by first | rfl | simp [cat_rf, cat_i, cat_l, cat_r]) ?_
      refine j_iconst X (a := 3) dL_calibrate_25 (q := 26) rfl ?_
      exact j_iret X rfl dL_calibrate_26 (⟨by rw [hx], fun q => by rw [hx] at q; exact absurd q (by decide), fun _ => rfl⟩) (by decide) (by decide)
  · skip
    rintro v9 w9 ⟨⟨hk, hk2, hk3⟩, rfl, hC9, hF9⟩
    have hx : kaK n S z x lf = 0 := by unfold kaK; (repeat' split) <;> omega
    have ho9 : w9 o = some (eLong ca f0) := hF9 _ _ ho (by show (2 : Nat) ≠ 0; decide)
    refine j_st (st := [.int (iI (kaR S nc nm z x lf)), .int (iI (0)), .ref (o)]) ?_
    refine j_i2lR X dL_calibrate_10 (q := 11) rfl ?_
    refine j_last X ho9 ⟨by decide, by decide⟩ (by decide) hbo dL_calibrate_11 (q := 12) rfl ?_
    refine j_w (w' := (wu w9 o (eLong ca (va_up f0 (Int.toNat 0) (((iI (kaR S nc nm z x lf)).toInt64)))))) rfl ?_
    refine j_goto X (tgt := 27) dL_calibrate_12 (by decide) ?_
    refine j_iconst X (a := 0) dL_calibrate_27 (q := 28) rfl ?_
    exact j_iret X rfl dL_calibrate_28 (⟨by rw [hx], fun _ => ⟨w9, _, hC9, hF9, rfl, rfl⟩, fun q => absurd hx q⟩) (by decide) (by decide)

set_option maxRecDepth 100000 in
set_option maxHeartbeats 4000000 in
theorem c_L_measure {l : Launch} (hlt : l.stackTraces = false) {D : va_G} {ca : Nat → ClassId} {base : Nat} {ad : Nat → Int → Nat} {n nc nm : Int} {S : St} {w : Wd} (hC : CW base ca ad n nc nm S w) (hI : IC n nc nm S) (o : Nat) (f0 : Nat → Int64) (ho : w o = some (eLong ca f0)) (hbo : base ≤ o) (z : Int) (hzi : -2147483648 ≤ z ∧ z ≤ 2147483647)  : CTW l D ca base yL_measure cL_measure 4 (some .int) [(0, 9, 12, 13), (0, 9, 15, 17)] 5 3 24 [.ref (ad 0 0), .int (iI (z)), .ref (o)] w (fun v w' => v = some (.int (iI (msK n nm S z))) ∧ (msK n nm S z = 0 → ∃ w1 f, (∃ ad', CW base ca ad' n nc (nm + 1) (meS S nm z) w1 ∧ ad' 0 0 = ad 0 0) ∧ Fr 0 w w1 ∧ f 0 = (iI (nm)).toInt64 ∧ w' = wu w1 o (eLong ca f)) ∧ (msK n nm S z ≠ 0 → w' = w)) := by
  obtain ⟨hn, hnc, hnm, e3, e4, e5, h6, h7, h8⟩ := hI.top
  refine CTW.mk hlt (by decide +kernel) (by first | exact Nat.le_of_ble_eq_true rfl | simp [lg_sl, cat_rf, cat_i, cat_l, cat_r]) ?_
  intro p e s m args below meth c X htab
  rw [show lv_args 0 [.ref (ad 0 0), .int (iI (z)), .ref (o)] = [(0, .ref (ad 0 0)), (1, .int (iI (z))), (2, .ref (o))] from by first | rfl | simp [lv_args, cat_rf, cat_i, cat_l, cat_r]]
  refine j_aload_n X dL_measure_0 (q := 1) rfl 2 rfl ?_
  refine j_iconst X (a := 0) dL_measure_1 (q := 2) rfl ?_
  refine j_aload_n X dL_measure_2 (q := 3) rfl 0 rfl ?_
  refine j_iload_n X dL_measure_3 (q := 4) rfl 1 rfl ?_
  refine j_callV X (As := [.int (iI (z))]) (st := [.int (iI (0)), .ref (o)]) hC.cal rfl (c_X3_measure hlt hC hI z hzi) sv_L_31 (by decide) rfl (by first | decide | exact Nat.le_of_ble_eq_true rfl) dL_measure_4 ⟨by decide, by decide⟩ (fun E w8 hE => ?_) ?_
  · skip
    obtain ⟨⟨hk, rfl⟩ | ⟨hk, hk2, rfl⟩, rfl⟩ := hE
    · skip
      refine j_catch X [] (⟨0, 9, 12, 13⟩ : ExceptionTableEntry) [(⟨0, 9, 15, 17⟩ : ExceptionTableEntry)] (htab.trans rfl) (fun z hz => absurd hz List.not_mem_nil) (by decide) (by decide) cl_L_13 (by decide) (fun q => ?_)
      have hx : msK n nm S z = 1 := by unfold msK; (repeat' split) <;> omega
      show J p l e (Rm 5 3 24) s m args below meth c (vx_MQ below (Qn D base (fun v w' => v = some (.int (iI (msK n nm S z))) ∧ (msK n nm S z = 0 → ∃ w1 f, (∃ ad', CW base ca ad' n nc (nm + 1) (meS S nm z) w1 ∧ ad' 0 0 = ad 0 0) ∧ Fr 0 w w1 ∧ f 0 = (iI (nm)).toInt64 ∧ w' = wu w1 o (eLong ca f)) ∧ (msK n nm S z ≠ 0 → w' = w))) (Xn D base (fun _ _ => False)) args s 3 24 (fun q => base ≤ q)) D base 4 3 24 12 [(0, .ref (ad 0 0)), (1, .int (iI (z))), (2, .ref (o))] [.ref (q)] w
      refine j_astore_n X (i := 3) dL_measure_12 rfl (by decide) (q := 13) rfl (lv' := [(3, .ref (q)), (0, .ref (ad 0 0)), (1, .int (iI (z))), (2, .ref (o))]) (by first | rfl | simp [cat_rf, cat_i, cat_l, cat_r]) ?_
      refine j_iconst X (a := 1) dL_measure_13 (q := 14) rfl ?_
      exact j_iret X rfl dL_measure_14 (⟨by rw [hx], fun q => by rw [hx] at q; exact absurd q (by decide), fun _ => rfl⟩) (by decide) (by decide)
    · skip
      refine j_catch X [(⟨0, 9, 12, 13⟩ : ExceptionTableEntry)] (⟨0, 9, 15, 17⟩ : ExceptionTableEntry) [] (htab.trans rfl) (fun z hz => by rcases List.mem_singleton.mp hz with rfl; exact ⟨by decide, _, cl_L_13, by decide⟩) (by decide) (by decide) cl_L_17 (by decide) (fun q => ?_)
      have hx : msK n nm S z = 2 := by unfold msK; (repeat' split) <;> omega
      show J p l e (Rm 5 3 24) s m args below meth c (vx_MQ below (Qn D base (fun v w' => v = some (.int (iI (msK n nm S z))) ∧ (msK n nm S z = 0 → ∃ w1 f, (∃ ad', CW base ca ad' n nc (nm + 1) (meS S nm z) w1 ∧ ad' 0 0 = ad 0 0) ∧ Fr 0 w w1 ∧ f 0 = (iI (nm)).toInt64 ∧ w' = wu w1 o (eLong ca f)) ∧ (msK n nm S z ≠ 0 → w' = w))) (Xn D base (fun _ _ => False)) args s 3 24 (fun q => base ≤ q)) D base 4 3 24 15 [(0, .ref (ad 0 0)), (1, .int (iI (z))), (2, .ref (o))] [.ref (q)] w
      refine j_astore_n X (i := 3) dL_measure_15 rfl (by decide) (q := 16) rfl (lv' := [(3, .ref (q)), (0, .ref (ad 0 0)), (1, .int (iI (z))), (2, .ref (o))]) (by first | rfl | simp [cat_rf, cat_i, cat_l, cat_r]) ?_
      refine j_iconst X (a := 2) dL_measure_16 (q := 17) rfl ?_
      exact j_iret X rfl dL_measure_17 (⟨by rw [hx], fun q => by rw [hx] at q; exact absurd q (by decide), fun _ => rfl⟩) (by decide) (by decide)
  · skip
    rintro v9 w9 ⟨⟨hk, hk2, hk3⟩, rfl, hC9, hF9⟩
    have hx : msK n nm S z = 0 := by unfold msK; (repeat' split) <;> omega
    have ho9 : w9 o = some (eLong ca f0) := hF9 _ _ ho (by show (2 : Nat) ≠ 0; decide)
    refine j_st (st := [.int (iI (nm)), .int (iI (0)), .ref (o)]) ?_
    refine j_i2lR X dL_measure_7 (q := 8) rfl ?_
    refine j_last X ho9 ⟨by decide, by decide⟩ (by decide) hbo dL_measure_8 (q := 9) rfl ?_
    refine j_w (w' := (wu w9 o (eLong ca (va_up f0 (Int.toNat 0) (((iI (nm)).toInt64)))))) rfl ?_
    refine j_goto X (tgt := 18) dL_measure_9 (by decide) ?_
    refine j_iconst X (a := 0) dL_measure_18 (q := 19) rfl ?_
    exact j_iret X rfl dL_measure_19 (⟨by rw [hx], fun _ => ⟨w9, _, hC9, hF9, rfl, rfl⟩, fun q => absurd hx q⟩) (by decide) (by decide)
