theorem cb1_keep {S : St} {f : Int} : ∀ (k : Nat) (g : Nat) (j : Int), g ≠ 32 → cb1 S f k g j = S g j
  | 0, _, _, _ => rfl
  | k + 1, g, j, h => by
    rw [cb1]
    split
    · rw [up_f h, cb1_keep k g j h]
    · exact cb1_keep k g j h
theorem cb2_keep {T : St} {f : Int} : ∀ (k : Nat) (g : Nat) (j : Int), g ≠ 26 → cb2 T f k g j = T g j
  | 0, _, _, _ => rfl
  | k + 1, g, j, h => by
    rw [cb2]
    split
    · rw [up_f h, cb2_keep k g j h]
    · exact cb2_keep k g j h
theorem cbS_keep {S : St} {nm f : Int} {g : Nat} {j : Int} (h : g ≠ 32 ∧ g ≠ 26 ∧ g ≠ 6) : cbS S nm f g j = S g j := by
  rw [cbS, cb2_keep _ _ _ h.2.1, up_f h.2.2, cb1_keep _ _ _ h.1]
def st1 (S : St) (z f : Int) : St := up (up S 25 f 1) 16 z (S 16 z + 1)
def st2 (S : St) (nm z o f x : Int) : St := if S 11 z < iabs x then cbS (st1 S z f) nm o else S
def st3 (S : St) (nm z o f x : Int) : St := up (st2 S nm z o f x) 13 z (niv (S 11 z) (iabs x) (S 13 z))
def st4 (S : St) (nm z o f x : Int) : St := if S 21 o < S 21 f then up (up (st3 S nm z o f x) 28 f (S 21 f - S 21 o)) 29 f (x - S 22 o) else st3 S nm z o f x
def st5 (S : St) (nm z o f x : Int) : St := up (st4 S nm z o f x) 27 o (S 20 f)
def stR (S : St) (nm z o f x : Int) : Int := if S 11 z < iabs x then cbn (st1 S z f) o nm.toNat else 0
theorem st2_keep {S : St} {nm z o f x : Int} {g : Nat} {j : Int} (h : g ≠ 32 ∧ g ≠ 26 ∧ g ≠ 6 ∧ g ≠ 25 ∧ g ≠ 16) : st2 S nm z o f x g j = S g j := by
  unfold st2
  split
  · rw [cbS_keep ⟨h.1, h.2.1, h.2.2.1⟩, st1, up_f h.2.2.2.2, up_f h.2.2.2.1]
  · rfl
section JSC
variable {p : Program} {l : Launch} {e : Env} {R : Room} {s : State} {m : MethodId} {args : Array Value} {below : List Frame} {meth : Method} {c : Code} {Q : State → Prop} {D : va_G} {base nL k n pc : Nat} {lv lv' : List (Nat × Value)} {st st' : List Value} {w : Wd}
theorem j_sc (h : st = st') (kk : J p l e R s m args below meth c Q D base nL k n pc lv st' w) : J p l e R s m args below meth c Q D base nL k n pc lv st w := by rw [h]; exact kk
theorem j_lc (h : lv = lv') (kk : J p l e R s m args below meth c Q D base nL k n pc lv' st w) : J p l e R s m args below meth c Q D base nL k n pc lv st w := by rw [h]; exact kk
end JSC
set_option maxRecDepth 100000 in
set_option maxHeartbeats 4000000 in
theorem c_X3_settle {l : Launch} (hlt : l.stackTraces = false) {D : va_G} {ca : Nat → ClassId} {base : Nat} {ad : Nat → Int → Nat} {n nc nm : Int} {S : St} {w : Wd} (hC : CW base ca ad n nc nm S w) (hI : IC n nc nm S) (z o f x : Int) (hz : 0 ≤ z ∧ z < n) (ho : 0 ≤ o ∧ o < nc) (hf : 0 ≤ f ∧ f < nc) (hx : -99999 ≤ x ∧ x ≤ 99999) (h16 : S 16 z ≤ 511) : CT l D ca base yX3_settle cX3_settle 7 (some .int) 3 0 0 [.ref (ad 0 0), va_rf (pt (ad 1) (z)), va_rf (pt (ad 2) (o)), va_rf (pt (ad 2) (f)), .int (iI (x))] w (fun v w' => v = some (.int (iI (stR S nm z o f x))) ∧ (CW base ca ad n nc nm (st5 S nm z o f x) w' ∧ IC n nc nm (st5 S nm z o f x)) ∧ Fr 0 w w') (fun _ _ => False) := by
  obtain ⟨hn, hnc, hnm, e3, e4, e5, h6, h7, h8⟩ := hI.top
  refine CT.mk hlt (by decide +kernel) (by first | exact Nat.le_of_ble_eq_true rfl | simp [lg_sl, cat_rf, cat_i, cat_l, cat_r]) ?_
  intro p e s m args below meth c X htab
  rw [show lv_args 0 [.ref (ad 0 0), va_rf (pt (ad 1) (z)), va_rf (pt (ad 2) (o)), va_rf (pt (ad 2) (f)), .int (iI (x))] = [(0, .ref (ad 0 0)), (1, va_rf (pt (ad 1) (z))), (2, va_rf (pt (ad 2) (o))), (3, va_rf (pt (ad 2) (f))), (4, .int (iI (x)))] from by first | rfl | simp [lv_args, cat_rf, cat_i, cat_l, cat_r]]
  obtain ⟨f_1_0, f_1_1, f_1_2, f_1_3, f_1_4, f_1_5, f_1_6, f_1_7, f_1_8⟩ := hI.ins hz.1 hz.2
  obtain ⟨f_2_0, f_2_1, f_2_2, f_2_3, f_2_4, f_2_5, f_2_6, f_2_7, f_2_8, f_2_9⟩ := hI.kal ho.1 ho.2
  obtain ⟨f_3_0, f_3_1, f_3_2, f_3_3, f_3_4, f_3_5, f_3_6, f_3_7, f_3_8, f_3_9⟩ := hI.kal hf.1 hf.2
  refine j_iload X dX3_settle_0 (q := 2) rfl 4 rfl ?_
  refine j_callS X (As := [.int (iI (x))]) (st := [])  (c_J9_abs_0f7a4 hlt x (by omega)) ss_X3_123 (by decide) rfl (by first | decide | exact Nat.le_of_ble_eq_true rfl | simp [cat_rf, cat_i, cat_l, cat_r]) dX3_settle_2 (by decide) (fun _ _ h => h.elim) ?_
  rintro v9 w9 ⟨rfl, rfl⟩
  refine j_st (st := [.int (iI (iabs x))]) ?_
  have hab : 0 ≤ iabs x ∧ iabs x ≤ 99999 := by unfold iabs; split <;> omega
  refine j_istore X (i := 5) dX3_settle_5 (by decide) (q := 7) rfl (lv' := [(5, .int (iI (iabs x))), (0, .ref (ad 0 0)), (1, va_rf (pt (ad 1) (z))), (2, va_rf (pt (ad 2) (o))), (3, va_rf (pt (ad 2) (f))), (4, .int (iI (x)))]) (by first | rfl | simp [cat_rf, cat_i, cat_l, cat_r]) ?_
  refine j_iconst X (a := 0) dX3_settle_7 (q := 8) rfl ?_
  refine j_istore X (i := 6) dX3_settle_8 (by decide) (q := 10) rfl (lv' := [(6, .int (iI (0))), (5, .int (iI (iabs x))), (0, .ref (ad 0 0)), (1, va_rf (pt (ad 1) (z))), (2, va_rf (pt (ad 2) (o))), (3, va_rf (pt (ad 2) (f))), (4, .int (iI (x)))]) (by first | rfl | simp [cat_rf, cat_i, cat_l, cat_r]) ?_
  refine j_iload X dX3_settle_10 (q := 12) rfl 1 rfl ?_
  refine j_aloadq_n X dX3_settle_12 (q := 13) rfl 3 rfl ?_
  refine j_getp X (v := .int (iI (S 11 z))) fl_X3_129 hz.1 (hC.ins hz.1 hz.2) rfl dX3_settle_13 (q := 16) rfl ?_
  refine j_icmp_le X (tgt := 41) dX3_settle_16 (by decide) (q := 19) rfl (by omega) (by omega) (fun c_16 => ?_) (fun c_16 => ?_)
  · skip
    have hF4 : Fr 0 w w := Fr.rf
    have hC4 : CW base ca ad n nc nm (st2 S nm z o f x) w := by rw [st2, if_neg (show ¬ S 11 z < iabs x by omega)]; exact hC
    have hI4 : IC n nc nm (st2 S nm z o f x) := by rw [st2, if_neg (show ¬ S 11 z < iabs x by omega)]; exact hI
    have hR : stR S nm z o f x = 0 := by rw [stR, if_neg (show ¬ S 11 z < iabs x by omega)]
    obtain ⟨w4, hw4⟩ : ∃ w4, w4 = w := ⟨_, rfl⟩
    rw [← hw4] at hF4 hC4
    rw [← hw4]
    refine j_lc (lv' := [(6, .int (iI (stR S nm z o f x))), (5, .int (iI (iabs x))), (0, .ref (ad 0 0)), (1, va_rf (pt (ad 1) (z))), (2, va_rf (pt (ad 2) (o))), (3, va_rf (pt (ad 2) (f))), (4, .int (iI (x)))]) (by rw [hR]) ?_
    have kp : ∀ (g : Nat) (j : Int), (g ≠ 32 ∧ g ≠ 26 ∧ g ≠ 6 ∧ g ≠ 25 ∧ g ≠ 16) → st2 S nm z o f x g j = S g j := fun g j h => st2_keep h
    have p11 := kp 11 z (by decide)
    have p13 := kp 13 z (by decide)
    obtain ⟨T, hT⟩ : ∃ T, T = st2 S nm z o f x := ⟨_, rfl⟩
    rw [← hT] at hC4 hI4 kp p11 p13
    refine j_aloadq_n X dX3_settle_41 (q := 42) rfl 3 rfl ?_
    refine j_aloadq_n X dX3_settle_42 (q := 43) rfl 3 rfl ?_
    refine j_iload X dX3_settle_43 (q := 45) rfl 1 rfl ?_
    refine j_callS X (As := [va_rf (pt (ad 1) (z)), .int (iI (iabs x))]) (st := [va_rf (pt (ad 1) (z))])  (c_X3_nextInterval hlt hC4 hI4 z (iabs x) hz (by omega)) ss_X3_142 (by decide) rfl (by first | decide | exact Nat.le_of_ble_eq_true rfl | simp [cat_rf, cat_i, cat_l, cat_r]) dX3_settle_45 (by decide) (fun _ _ h => h.elim) ?_
    rintro v9 w9 ⟨rfl, rfl⟩
    rw [p11, p13]
    refine j_st (st := [.int (iI (niv (S 11 z) (iabs x) (S 13 z))), va_rf (pt (ad 1) (z))]) ?_
    refine jp_13 X fp_X3_146 hC4 hz.1 hz.2 dX3_settle_48 (q := 51) rfl (fun w5 hC5 hF5 => ?_)
    have hI5 := IC.up13 hI4 (i := z) (v := niv (S 11 z) (iabs x) (S 13 z)) (niv_b (by omega))
    have e3x : up T 13 z (niv (S 11 z) (iabs x) (S 13 z)) = st3 S nm z o f x := by rw [st3, hT]
    have p21f := kp 21 f (by decide)
    have p21o := kp 21 o (by decide)
    have p22o := kp 22 o (by decide)
    have p20f := kp 20 f (by decide)
    refine j_aloadq_n X dX3_settle_51 (q := 52) rfl 5 rfl ?_
    refine j_getp X (v := .int (iI (T 21 f))) fl_X3_149 hf.1 (hC5.kal hf.1 hf.2) rfl dX3_settle_52 (q := 55) rfl ?_
    refine j_aloadq_n X dX3_settle_55 (q := 56) rfl 4 rfl ?_
    refine j_getp X (v := .int (iI (T 21 o))) fl_X3_149 ho.1 (hC5.kal ho.1 ho.2) rfl dX3_settle_56 (q := 59) rfl ?_
    refine j_icmp_le X (tgt := 86) dX3_settle_59 (by decide) (q := 62) rfl (by omega) (by omega) (fun c_59 => ?_) (fun c_59 => ?_)
    · skip
      have e4x : st4 S nm z o f x = st3 S nm z o f x := by rw [st4, if_neg (show ¬ S 21 o < S 21 f by omega)]
      have hF8 := hF4.tr hF5
      rw [e3x, ← e4x] at hC5 hI5
      have hC7 := hC5
      have hI7 := hI5
      refine j_aloadq_n X dX3_settle_86 (q := 87) rfl 4 rfl ?_
      refine j_aloadq_n X dX3_settle_87 (q := 88) rfl 5 rfl ?_
      have q20 : st4 S nm z o f x 20 f = S 20 f := by rw [e4x]; first | (rw [up_f (by decide), up_f (by decide), st3, up_f (by decide)]; exact st2_keep (by decide)) | (rw [st3, up_f (by decide)]; exact st2_keep (by decide))
      refine j_getp X (v := .int (iI (S 20 f))) fl_X3_161 hf.1 (hC7.kal hf.1 hf.2) (by show some (Value.int (iI (st4 S nm z o f x 20 f))) = _; rw [q20]) dX3_settle_88 (q := 91) rfl ?_
      refine jp_27 X fp_X3_162 hC7 ho.1 ho.2 dX3_settle_91 (q := 94) rfl (fun w8 hC8 hF9 => ?_)
      have hI8 := IC.up27 hI7 (i := o) (v := S 20 f) (by omega)
      refine j_iload X dX3_settle_94 (q := 96) rfl 0 rfl ?_
      exact j_iret X rfl dX3_settle_96 (⟨rfl, ⟨hC8, hI8⟩, hF8.tr hF9⟩) (by decide) (by decide)
    · skip
      refine j_aloadq_n X dX3_settle_62 (q := 63) rfl 5 rfl ?_
      refine j_aloadq_n X dX3_settle_63 (q := 64) rfl 5 rfl ?_
      refine j_getp X (v := .int (iI (T 21 f))) fl_X3_149 hf.1 (hC5.kal hf.1 hf.2) rfl dX3_settle_64 (q := 67) rfl ?_
      refine j_aloadq_n X dX3_settle_67 (q := 68) rfl 4 rfl ?_
      refine j_getp X (v := .int (iI (T 21 o))) fl_X3_149 ho.1 (hC5.kal ho.1 ho.2) rfl dX3_settle_68 (q := 71) rfl ?_
      refine j_isub X dX3_settle_71 (q := 72) rfl ?_
      refine jp_28 X fp_X3_152 hC5 hf.1 hf.2 dX3_settle_72 (q := 75) rfl (fun w6 hC6 hF6 => ?_)
      refine j_aloadq_n X dX3_settle_75 (q := 76) rfl 5 rfl ?_
      refine j_iload X dX3_settle_76 (q := 78) rfl 6 rfl ?_
      refine j_aloadq_n X dX3_settle_78 (q := 79) rfl 4 rfl ?_
      refine j_getp X (v := .int (iI (T 22 o))) fl_X3_155 ho.1 (hC6.kal ho.1 ho.2) rfl dX3_settle_79 (q := 82) rfl ?_
      refine j_isub X dX3_settle_82 (q := 83) rfl ?_
      refine jp_29 X fp_X3_158 hC6 hf.1 hf.2 dX3_settle_83 (q := 86) rfl (fun w7 hC7 hF7 => ?_)
      have hI7 := IC.up29 (IC.up28 hI5 (i := f) (v := T 21 f - T 21 o) (by omega)) (i := f) (v := x - T 22 o) (by omega)
      rw [p21f, p21o, p22o, e3x] at hC7 hI7
      have e4x : st4 S nm z o f x = up (up (st3 S nm z o f x) 28 f (S 21 f - S 21 o)) 29 f (x - S 22 o) := by rw [st4, if_pos (show S 21 o < S 21 f by omega)]
      rw [← e4x] at hC7 hI7
      have hF8 := ((hF4.tr hF5).tr hF6).tr hF7
      refine j_aloadq_n X dX3_settle_86 (q := 87) rfl 4 rfl ?_
      refine j_aloadq_n X dX3_settle_87 (q := 88) rfl 5 rfl ?_
      have q20 : st4 S nm z o f x 20 f = S 20 f := by rw [e4x]; first | (rw [up_f (by decide), up_f (by decide), st3, up_f (by decide)]; exact st2_keep (by decide)) | (rw [st3, up_f (by decide)]; exact st2_keep (by decide))
      refine j_getp X (v := .int (iI (S 20 f))) fl_X3_161 hf.1 (hC7.kal hf.1 hf.2) (by show some (Value.int (iI (st4 S nm z o f x 20 f))) = _; rw [q20]) dX3_settle_88 (q := 91) rfl ?_
      refine jp_27 X fp_X3_162 hC7 ho.1 ho.2 dX3_settle_91 (q := 94) rfl (fun w8 hC8 hF9 => ?_)
      have hI8 := IC.up27 hI7 (i := o) (v := S 20 f) (by omega)
      refine j_iload X dX3_settle_94 (q := 96) rfl 0 rfl ?_
      exact j_iret X rfl dX3_settle_96 (⟨rfl, ⟨hC8, hI8⟩, hF8.tr hF9⟩) (by decide) (by decide)
  · skip
    refine j_aloadq_n X dX3_settle_19 (q := 20) rfl 5 rfl ?_
    refine j_iconst X (a := 1) dX3_settle_20 (q := 21) rfl ?_
    refine jp_25 X fp_X3_132 hC hf.1 hf.2 (Or.inr rfl) dX3_settle_21 (q := 24) rfl (fun w1 hC1 hF1 => ?_)
    refine j_aloadq_n X dX3_settle_24 (q := 25) rfl 3 rfl ?_
    refine j_dup X (by first | rfl | exact cat_rf _) dX3_settle_25 (q := 26) rfl ?_
    refine j_getp X (v := .int (iI (S 16 z))) fl_X3_136 hz.1 (hC1.ins hz.1 hz.2) rfl dX3_settle_26 (q := 29) rfl ?_
    refine j_iconst X (a := 1) dX3_settle_29 (q := 30) rfl ?_
    refine j_iadd X dX3_settle_30 (q := 31) rfl ?_
    refine jp_16 X fp_X3_136 hC1 hz.1 hz.2 dX3_settle_31 (q := 34) rfl (fun w2 hC2 hF2 => ?_)
    refine j_aload_n X dX3_settle_34 (q := 35) rfl 2 rfl ?_
    refine j_aloadq_n X dX3_settle_35 (q := 36) rfl 4 rfl ?_
    have hI2 := IC.up16 (i := z) (v := S 16 z + 1) (IC.up25 hI (i := f) (v := 1) (by decide)) (by omega)
    refine j_callV X (As := [va_rf (pt (ad 2) (o))]) (st := []) hC2.cal rfl (c_X3_callBack hlt hC2 hI2 o ho) sv_X3_138 (by decide) rfl (by decide) dX3_settle_36 (by decide) (fun _ _ h => h.elim) ?_
    rintro v9 w3 ⟨rfl, ⟨hC3, hI3⟩, hF3⟩
    refine j_st (st := [.int (iI (cbn (st1 S z f) o nm.toNat))]) ?_
    refine j_istore X (i := 6) dX3_settle_39 (by decide) (q := 41) rfl (lv' := [(6, .int (iI (cbn (st1 S z f) o nm.toNat))), (5, .int (iI (iabs x))), (0, .ref (ad 0 0)), (1, va_rf (pt (ad 1) (z))), (2, va_rf (pt (ad 2) (o))), (3, va_rf (pt (ad 2) (f))), (4, .int (iI (x)))]) (by first | rfl | simp [cat_rf, cat_i, cat_l, cat_r]) ?_
    have hF4 : Fr 0 w w3 := (hF1.tr hF2).tr hF3
    have hC4 : CW base ca ad n nc nm (st2 S nm z o f x) w3 := by rw [st2, if_pos c_16]; exact hC3
    have hI4 : IC n nc nm (st2 S nm z o f x) := by rw [st2, if_pos c_16]; exact hI3
    have hR : stR S nm z o f x = cbn (st1 S z f) o nm.toNat := by rw [stR, if_pos c_16]
    generalize w3 = w4 at hF4 hC4 ⊢
    refine j_lc (lv' := [(6, .int (iI (stR S nm z o f x))), (5, .int (iI (iabs x))), (0, .ref (ad 0 0)), (1, va_rf (pt (ad 1) (z))), (2, va_rf (pt (ad 2) (o))), (3, va_rf (pt (ad 2) (f))), (4, .int (iI (x)))]) (by rw [hR]) ?_
    have kp : ∀ (g : Nat) (j : Int), (g ≠ 32 ∧ g ≠ 26 ∧ g ≠ 6 ∧ g ≠ 25 ∧ g ≠ 16) → st2 S nm z o f x g j = S g j := fun g j h => st2_keep h
    have p11 := kp 11 z (by decide)
    have p13 := kp 13 z (by decide)
    obtain ⟨T, hT⟩ : ∃ T, T = st2 S nm z o f x := ⟨_, rfl⟩
    rw [← hT] at hC4 hI4 kp p11 p13
    refine j_aloadq_n X dX3_settle_41 (q := 42) rfl 3 rfl ?_
    refine j_aloadq_n X dX3_settle_42 (q := 43) rfl 3 rfl ?_
    refine j_iload X dX3_settle_43 (q := 45) rfl 1 rfl ?_
    refine j_callS X (As := [va_rf (pt (ad 1) (z)), .int (iI (iabs x))]) (st := [va_rf (pt (ad 1) (z))])  (c_X3_nextInterval hlt hC4 hI4 z (iabs x) hz (by omega)) ss_X3_142 (by decide) rfl (by first | decide | exact Nat.le_of_ble_eq_true rfl | simp [cat_rf, cat_i, cat_l, cat_r]) dX3_settle_45 (by decide) (fun _ _ h => h.elim) ?_
    rintro v9 w9 ⟨rfl, rfl⟩
    rw [p11, p13]
    refine j_st (st := [.int (iI (niv (S 11 z) (iabs x) (S 13 z))), va_rf (pt (ad 1) (z))]) ?_
    refine jp_13 X fp_X3_146 hC4 hz.1 hz.2 dX3_settle_48 (q := 51) rfl (fun w5 hC5 hF5 => ?_)
    have hI5 := IC.up13 hI4 (i := z) (v := niv (S 11 z) (iabs x) (S 13 z)) (niv_b (by omega))
    have e3x : up T 13 z (niv (S 11 z) (iabs x) (S 13 z)) = st3 S nm z o f x := by rw [st3, hT]
    have p21f := kp 21 f (by decide)
    have p21o := kp 21 o (by decide)
    have p22o := kp 22 o (by decide)
    have p20f := kp 20 f (by decide)
    refine j_aloadq_n X dX3_settle_51 (q := 52) rfl 5 rfl ?_
    refine j_getp X (v := .int (iI (T 21 f))) fl_X3_149 hf.1 (hC5.kal hf.1 hf.2) rfl dX3_settle_52 (q := 55) rfl ?_
    refine j_aloadq_n X dX3_settle_55 (q := 56) rfl 4 rfl ?_
    refine j_getp X (v := .int (iI (T 21 o))) fl_X3_149 ho.1 (hC5.kal ho.1 ho.2) rfl dX3_settle_56 (q := 59) rfl ?_
    refine j_icmp_le X (tgt := 86) dX3_settle_59 (by decide) (q := 62) rfl (by omega) (by omega) (fun c_59 => ?_) (fun c_59 => ?_)
    · skip
      have e4x : st4 S nm z o f x = st3 S nm z o f x := by rw [st4, if_neg (show ¬ S 21 o < S 21 f by omega)]
      have hF8 := hF4.tr hF5
      rw [e3x, ← e4x] at hC5 hI5
      have hC7 := hC5
      have hI7 := hI5
      refine j_aloadq_n X dX3_settle_86 (q := 87) rfl 4 rfl ?_
      refine j_aloadq_n X dX3_settle_87 (q := 88) rfl 5 rfl ?_
      have q20 : st4 S nm z o f x 20 f = S 20 f := by rw [e4x]; first | (rw [up_f (by decide), up_f (by decide), st3, up_f (by decide)]; exact st2_keep (by decide)) | (rw [st3, up_f (by decide)]; exact st2_keep (by decide))
      refine j_getp X (v := .int (iI (S 20 f))) fl_X3_161 hf.1 (hC7.kal hf.1 hf.2) (by show some (Value.int (iI (st4 S nm z o f x 20 f))) = _; rw [q20]) dX3_settle_88 (q := 91) rfl ?_
      refine jp_27 X fp_X3_162 hC7 ho.1 ho.2 dX3_settle_91 (q := 94) rfl (fun w8 hC8 hF9 => ?_)
      have hI8 := IC.up27 hI7 (i := o) (v := S 20 f) (by omega)
      refine j_iload X dX3_settle_94 (q := 96) rfl 0 rfl ?_
      exact j_iret X rfl dX3_settle_96 (⟨rfl, ⟨hC8, hI8⟩, hF8.tr hF9⟩) (by decide) (by decide)
    · skip
      refine j_aloadq_n X dX3_settle_62 (q := 63) rfl 5 rfl ?_
      refine j_aloadq_n X dX3_settle_63 (q := 64) rfl 5 rfl ?_
      refine j_getp X (v := .int (iI (T 21 f))) fl_X3_149 hf.1 (hC5.kal hf.1 hf.2) rfl dX3_settle_64 (q := 67) rfl ?_
      refine j_aloadq_n X dX3_settle_67 (q := 68) rfl 4 rfl ?_
      refine j_getp X (v := .int (iI (T 21 o))) fl_X3_149 ho.1 (hC5.kal ho.1 ho.2) rfl dX3_settle_68 (q := 71) rfl ?_
      refine j_isub X dX3_settle_71 (q := 72) rfl ?_
      refine jp_28 X fp_X3_152 hC5 hf.1 hf.2 dX3_settle_72 (q := 75) rfl (fun w6 hC6 hF6 => ?_)
      refine j_aloadq_n X dX3_settle_75 (q := 76) rfl 5 rfl ?_
      refine j_iload X dX3_settle_76 (q := 78) rfl 6 rfl ?_
      refine j_aloadq_n X dX3_settle_78 (q := 79) rfl 4 rfl ?_
      refine j_getp X (v := .int (iI (T 22 o))) fl_X3_155 ho.1 (hC6.kal ho.1 ho.2) rfl dX3_settle_79 (q := 82) rfl ?_
      refine j_isub X dX3_settle_82 (q := 83) rfl ?_
      refine jp_29 X fp_X3_158 hC6 hf.1 hf.2 dX3_settle_83 (q := 86) rfl (fun w7 hC7 hF7 => ?_)
      have hI7 := IC.up29 (IC.up28 hI5 (i := f) (v := T 21 f - T 21 o) (by omega)) (i := f) (v := x - T 22 o) (by omega)
      rw [p21f, p21o, p22o, e3x] at hC7 hI7
      have e4x : st4 S nm z o f x = up (up (st3 S nm z o f x) 28 f (S 21 f - S 21 o)) 29 f (x - S 22 o) := by rw [st4, if_pos (show S 21 o < S 21 f by omega)]
      rw [← e4x] at hC7 hI7
      have hF8 := ((hF4.tr hF5).tr hF6).tr hF7
      refine j_aloadq_n X dX3_settle_86 (q := 87) rfl 4 rfl ?_
      refine j_aloadq_n X dX3_settle_87 (q := 88) rfl 5 rfl ?_
      have q20 : st4 S nm z o f x 20 f = S 20 f := by rw [e4x]; first | (rw [up_f (by decide), up_f (by decide), st3, up_f (by decide)]; exact st2_keep (by decide)) | (rw [st3, up_f (by decide)]; exact st2_keep (by decide))
      refine j_getp X (v := .int (iI (S 20 f))) fl_X3_161 hf.1 (hC7.kal hf.1 hf.2) (by show some (Value.int (iI (st4 S nm z o f x 20 f))) = _; rw [q20]) dX3_settle_88 (q := 91) rfl ?_
      refine jp_27 X fp_X3_162 hC7 ho.1 ho.2 dX3_settle_91 (q := 94) rfl (fun w8 hC8 hF9 => ?_)
      have hI8 := IC.up27 hI7 (i := o) (v := S 20 f) (by omega)
      refine j_iload X dX3_settle_94 (q := 96) rfl 0 rfl ?_
      exact j_iret X rfl dX3_settle_96 (⟨rfl, ⟨hC8, hI8⟩, hF8.tr hF9⟩) (by decide) (by decide)

def bas (S : St) (z : Int) : Int := if S 14 z < 0 then -1 else S 15 (S 14 z)
def kaF (S : St) (z lf : Int) : Nat → Int := fun g => if g = 20 then S 8 0 else if g = 21 then S 7 0 else if g = 22 then lf else if g = 23 then S 15 z else if g = 24 then bas S z else if g = 27 then 1000000 else 0
def ka1 (S : St) (nc z lf : Int) : St := nwK S nc (kaF S z lf)
def ka2 (S : St) (nc nm z x lf : Int) : St := if S 15 z < 0 then ka1 S nc z lf else st5 (ka1 S nc z lf) nm z (S 15 z) nc x
def ka3 (S : St) (nc nm z x lf : Int) : St := up (ka2 S nc nm z x lf) 15 z nc
def kaS (S : St) (nc nm z x lf : Int) : St := up (up (spS (ka3 S nc nm z x lf) z) 5 0 (nc + 1)) 8 0 (S 8 0 + 1)
def kaR (S : St) (nc nm z x lf : Int) : Int := if S 15 z < 0 then 0 else stR (ka1 S nc z lf) nm z (S 15 z) nc x
theorem nwK_o {S : St} {n j : Int} {f : Nat → Int} {g : Nat} (h : j ≠ n ∨ g < 20 ∨ 29 < g) : nwK S n f g j = S g j := by
  unfold nwK
  rw [if_neg (by omega)]
theorem nwK_s {S : St} {n : Int} {f : Nat → Int} {g : Nat} (h : 20 ≤ g ∧ g ≤ 29) : nwK S n f g n = f g := by
  unfold nwK
  rw [if_pos ⟨rfl, h⟩]
theorem IC.ka1 {n nc nm : Int} {S : St} (hI : IC n nc nm S) (hlc : nc < 512) {z lf : Int} (hz : 0 ≤ z ∧ z < n) (hlf : -99999 ≤ lf ∧ lf ≤ 99999) (hb : -1 ≤ bas S z ∧ bas S z < nc) : IC n (nc + 1) nm (ka1 S nc z lf) := by
  obtain ⟨⟨h1, h2, h3, h4, h5, h6, h7, h8, h9⟩, hins, hkal, hmea, hend⟩ := id hI
  have o : ∀ g j, (j ≠ nc ∨ g < 20 ∨ 29 < g) → Jvm.Pilot.CCalibratoryLaw_law_r5981_98d5a5.ka1 S nc z lf g j = S g j := fun g j h => nwK_o h
  refine ⟨⟨h1, by omega, h3, ?_, ?_, ?_, trivial, ?_, ?_⟩, ?_, ?_, ?_, ?_⟩
  · rw [o 3 0 (by omega)]; exact h4
  · rw [o 4 0 (by omega)]; exact h5
  · rw [o 5 0 (by omega)]; omega
  · rw [o 7 0 (by omega)]; exact h8
  · rw [o 8 0 (by omega)]; exact h9
  · intro i a b
    have g := hins i a b
    unfold RI at g ⊢
    rw [o 10 i (by omega), o 11 i (by omega), o 12 i (by omega), o 13 i (by omega), o 14 i (by omega), o 15 i (by omega), o 16 i (by omega), o 17 i (by omega), o 18 i (by omega)]
    omega
  · intro j a b
    by_cases hj : j = nc
    · subst hj
      have hi := hins z hz.1 hz.2
      have c : ∀ g, (20 ≤ g ∧ g ≤ 29) → Jvm.Pilot.CCalibratoryLaw_law_r5981_98d5a5.ka1 S j z lf g j = kaF S z lf g := fun g h => nwK_s h
      unfold RI at hi
      unfold RK
      rw [c 20 (by decide), c 21 (by decide), c 22 (by decide), c 23 (by decide), c 24 (by decide), c 25 (by decide), c 26 (by decide), c 27 (by decide), c 28 (by decide), c 29 (by decide)]
      simp only [kaF]
      refine ⟨h9, h8, hlf, ?_, hb, ?_, ?_, ?_, ?_, ?_⟩
      · show -1 ≤ S 15 z ∧ S 15 z < j
        omega
      all_goals simp
    · have g := hkal j a (by omega)
      unfold RK at g ⊢
      rw [o 20 j (Or.inl hj), o 21 j (Or.inl hj), o 22 j (Or.inl hj), o 23 j (Or.inl hj), o 24 j (Or.inl hj), o 25 j (Or.inl hj), o 26 j (Or.inl hj), o 27 j (Or.inl hj), o 28 j (Or.inl hj), o 29 j (Or.inl hj)]
      exact g
  · intro k a b
    have g := hmea k a b
    unfold RM at g ⊢
    rw [o 30 k (by omega), o 31 k (by omega), o 32 k (by omega)]
    omega
  · intro i a b
    have e : (Jvm.Pilot.CCalibratoryLaw_law_r5981_98d5a5.ka1 S nc z lf) 14 = S 14 := by funext j; exact o 14 j (by omega)
    rw [e]
    exact hend i a b
theorem st5_keep {S : St} {nm z o f x : Int} {g : Nat} {j : Int} (h : g ≠ 32 ∧ g ≠ 26 ∧ g ≠ 6 ∧ g ≠ 25 ∧ g ≠ 16 ∧ g ≠ 13 ∧ g ≠ 28 ∧ g ≠ 29 ∧ g ≠ 27) : st5 S nm z o f x g j = S g j := by
  obtain ⟨h1, h2, h3, h4, h5, h6, h7, h8, h9⟩ := h
  rw [st5, up_f h9, st4]
  split
  · rw [up_f h8, up_f h7, st3, up_f h6, st2_keep ⟨h1, h2, h3, h4, h5⟩]
  · rw [st3, up_f h6, st2_keep ⟨h1, h2, h3, h4, h5⟩]
theorem ka2_at {S : St} {nc nm z x lf : Int} {g : Nat} {j : Int} (h : g ≠ 32 ∧ g ≠ 26 ∧ g ≠ 6 ∧ g ≠ 25 ∧ g ≠ 16 ∧ g ≠ 13 ∧ g ≠ 28 ∧ g ≠ 29 ∧ g ≠ 27) : ka2 S nc nm z x lf g j = ka1 S nc z lf g j := by
  unfold ka2
  by_cases c : S 15 z < 0
  · rw [if_pos c]
  · rw [if_neg c]; exact st5_keep h
set_option maxRecDepth 100000 in
set_option maxHeartbeats 4000000 in
theorem c_X3_calibrate {l : Launch} (hlt : l.stackTraces = false) {D : va_G} {ca : Nat → ClassId} {base : Nat} {ad : Nat → Int → Nat} {n nc nm : Int} {S : St} {w : Wd} (hC : CW base ca ad n nc nm S w) (hI : IC n nc nm S) (z : Int) (hz : -2147483648 ≤ z ∧ z ≤ 2147483647) (x lf : Int) (hx : -2147483648 ≤ x ∧ x ≤ 2147483647) (hlf : -2147483648 ≤ lf ∧ lf ≤ 2147483647) (hlc : nc < 512) (h5 : S 5 0 = nc) (h16 : ∀ i, 0 ≤ i → i < n → S 16 i ≤ 511) : CT l D ca base yX3_calibrate cX3_calibrate 9 (some .int) 5 3 30 [.ref (ad 0 0), .int (iI (z)), .int (iI (x)), .int (iI (lf))] w (fun v w' => ((0 ≤ z ∧ z < n) ∧ ((-99999 ≤ x ∧ x ≤ 99999) ∧ (-99999 ≤ lf ∧ lf ≤ 99999)) ∧ fof (S 14) (inF S) 12 (S 14 z) = -1) ∧ v = some (.int (iI (kaR S nc nm z x lf))) ∧ (∃ ad', CW base ca ad' n (nc + 1) nm (kaS S nc nm z x lf) w' ∧ ad' 0 0 = ad 0 0) ∧ Fr 0 w w') (fun E w' => ((¬ (0 ≤ z ∧ z < n) ∧ E = nIO) ∨ ((0 ≤ z ∧ z < n) ∧ ¬ ((-99999 ≤ x ∧ x ≤ 99999) ∧ (-99999 ≤ lf ∧ lf ≤ 99999)) ∧ E = nIA) ∨ ((0 ≤ z ∧ z < n) ∧ ((-99999 ≤ x ∧ x ≤ 99999) ∧ (-99999 ≤ lf ∧ lf ≤ 99999)) ∧ ¬ fof (S 14) (inF S) 12 (S 14 z) = -1 ∧ E = nIS)) ∧ w = w') := by
  obtain ⟨hn, hnc, hnm, e3, e4, e5, h6, h7, h8⟩ := hI.top
  refine CT.mk hlt (by decide +kernel) (by first | exact Nat.le_of_ble_eq_true rfl | simp [lg_sl, cat_rf, cat_i, cat_l, cat_r]) ?_
  intro p e s m args below meth c X htab
  rw [show lv_args 0 [.ref (ad 0 0), .int (iI (z)), .int (iI (x)), .int (iI (lf))] = [(0, .ref (ad 0 0)), (1, .int (iI (z))), (2, .int (iI (x))), (3, .int (iI (lf)))] from by first | rfl | simp [lv_args, cat_rf, cat_i, cat_l, cat_r]]
  refine j_aload_n X dX3_calibrate_0 (q := 1) rfl 0 rfl ?_
  refine j_iload_n X dX3_calibrate_1 (q := 2) rfl 1 rfl ?_
  refine j_callV X (As := [.int (iI (z))]) (st := []) hC.cal rfl (c_X3_known hlt hC hI z hz) sv_X3_54 (by decide) rfl (by first | decide | exact Nat.le_of_ble_eq_true rfl | simp [cat_rf, cat_i, cat_l, cat_r]) dX3_calibrate_2 (by decide) (fun E w' h => jx_out X htab ⟨Or.inl ⟨h.1, h.2.1⟩, h.2.2⟩ (by decide) (by decide)) ?_
  rintro v9 w9 ⟨k1, rfl, rfl⟩
  refine j_st (st := [va_rf (pt (ad 1) (z))]) ?_
  obtain ⟨f_4_0, f_4_1, f_4_2, f_4_3, f_4_4, f_4_5, f_4_6, f_4_7, f_4_8⟩ := hI.ins k1.1 k1.2
  have h16z := h16 z k1.1 k1.2
  refine j_astoreq X (i := 4) dX3_calibrate_5 (by decide) (q := 7) rfl (lv' := [(4, va_rf (pt (ad 1) (z))), (0, .ref (ad 0 0)), (1, .int (iI (z))), (2, .int (iI (x))), (3, .int (iI (lf)))]) (by first | rfl | simp [cat_rf, cat_i, cat_l, cat_r]) ?_
  refine j_iload_n X dX3_calibrate_7 (q := 8) rfl 3 rfl ?_
  refine j_callS X (As := [.int (iI (x))]) (st := [])  (c_X3_isNoError hlt hC hI x hx) ss_X3_80 (by decide) rfl (by first | decide | exact Nat.le_of_ble_eq_true rfl | simp [cat_rf, cat_i, cat_l, cat_r]) dX3_calibrate_8 (by decide) (fun _ _ h => h.elim) ?_
  rintro v9 w9 ⟨rfl, rfl⟩
  refine j_st (st := [.int (iI (tf (x < -99999 ∨ 99999 < x)))]) ?_
  have hbx := tf_b (x < -99999 ∨ 99999 < x)
  refine j_if_ne X (tgt := 21) dX3_calibrate_11 (by decide) (q := 14) rfl (by omega) (fun c_11 => ?_) (fun c_11 => ?_)
  · skip
    have b1 : ¬ (-99999 ≤ x ∧ x ≤ 99999) := fun z => c_11 (tf_f (by omega))
    exact j_throw X htab ts_31_84 dX3_calibrate_21 dX3_calibrate_24 dX3_calibrate_25 dX3_calibrate_27 dX3_calibrate_30 (by decide) (by decide) (by decide) (by decide) (⟨Or.inr (Or.inl ⟨k1, fun h => b1 h.1, rfl⟩), rfl⟩) (by decide) (by decide)
  · skip
    have b1 : -99999 ≤ x ∧ x ≤ 99999 := Classical.byContradiction fun z => by rw [tf_t (by omega)] at c_11; cases c_11
    refine j_iload_n X dX3_calibrate_14 (q := 15) rfl 4 rfl ?_
    refine j_callS X (As := [.int (iI (lf))]) (st := [])  (c_X3_isNoError hlt hC hI lf hlf) ss_X3_80 (by decide) rfl (by first | decide | exact Nat.le_of_ble_eq_true rfl | simp [cat_rf, cat_i, cat_l, cat_r]) dX3_calibrate_15 (by decide) (fun _ _ h => h.elim) ?_
    rintro v9 w9 ⟨rfl, rfl⟩
    refine j_st (st := [.int (iI (tf (lf < -99999 ∨ 99999 < lf)))]) ?_
    have hblf := tf_b (lf < -99999 ∨ 99999 < lf)
    refine j_if_eq X (tgt := 31) dX3_calibrate_18 (by decide) (q := 21) rfl (by omega) (fun c_18 => ?_) (fun c_18 => ?_)
    · skip
      have b2 : -99999 ≤ lf ∧ lf ≤ 99999 := Classical.byContradiction fun z => by rw [tf_t (by omega)] at c_18; cases c_18
      refine j_aload_n X dX3_calibrate_31 (q := 32) rfl 1 rfl ?_
      refine j_aloadq X dX3_calibrate_32 (q := 34) rfl 0 rfl ?_
      refine j_getp X (v := va_rf (pt (ad 1) (S 14 z))) fl_X3_50 k1.1 (hC.ins k1.1 k1.2) rfl dX3_calibrate_34 (q := 37) rfl ?_
      have hf9 := fof_r (inF := inF S) (fun i a b => (hI.ins a b).2.2.2.2.1) 12 (S 14 z) (by omega) (by omega) hn.1
      refine j_callV X (As := [va_rf (pt (ad 1) (S 14 z))]) (st := []) hC.cal rfl (c_X3_firstOutOfForce hlt hC hI (S 14 z) (by omega)) sv_X3_86 (by decide) rfl (by first | decide | exact Nat.le_of_ble_eq_true rfl | simp [cat_rf, cat_i, cat_l, cat_r]) dX3_calibrate_37 (by decide) (fun _ _ h => h.elim) ?_
      rintro v9 w9 ⟨rfl, rfl⟩
      refine j_st (st := [va_rf (pt (ad 1) (fof (S 14) (inF S) 12 (S 14 z)))]) ?_
      refine j_ifnullp X (tgt := 53) dX3_calibrate_40 (by decide) (q := 43) rfl (fun c_40 => ?_) (fun c_40 => ?_)
      · skip
        have b3 : fof (S 14) (inF S) 12 (S 14 z) = -1 := by omega
        refine j_aload_n X dX3_calibrate_53 (q := 54) rfl 1 rfl ?_
        refine j_get X (v := .int (iI (S 5 0))) fl_X3_92 hC.cal rfl dX3_calibrate_54 (q := 57) rfl ?_
        refine j_istore X (i := 5) dX3_calibrate_57 (by decide) (q := 59) rfl (lv' := [(5, .int (iI (S 5 0))), (4, va_rf (pt (ad 1) (z))), (0, .ref (ad 0 0)), (1, .int (iI (z))), (2, .int (iI (x))), (3, .int (iI (lf)))]) (by first | rfl | simp [cat_rf, cat_i, cat_l, cat_r]) ?_
        refine j_iload X dX3_calibrate_59 (q := 61) rfl 0 rfl ?_
        refine j_if_lt X (tgt := 74) dX3_calibrate_61 (by decide) (q := 64) rfl (by omega) (fun c_61 => ?_) (fun c_61 => ?_)
        · skip
          exact absurd c_61 (by omega)
        · skip
          refine j_iload X dX3_calibrate_64 (q := 66) rfl 0 rfl ?_
          refine j_aload_n X dX3_calibrate_66 (q := 67) rfl 2 rfl ?_
          refine j_get X (v := .ref (ad 0 3)) fl_X3_23 hC.cal rfl dX3_calibrate_67 (q := 70) rfl ?_
          refine j_alen X (t := 4) (N := 512) rfl hC.log rfl dX3_calibrate_70 (q := 71) rfl ?_
          refine j_icmp_lt X (tgt := 76) dX3_calibrate_71 (by decide) (q := 74) rfl (by omega) (by omega) (fun c_71 => ?_) (fun c_71 => ?_)
          · skip
            refine j_aloadq X dX3_calibrate_76 (q := 78) rfl 1 rfl ?_
            refine j_getp X (v := va_rf (pt (ad 1) (S 14 z))) fl_X3_50 k1.1 (hC.ins k1.1 k1.2) rfl dX3_calibrate_78 (q := 81) rfl ?_
            refine j_ifnonnullp X (tgt := 88) dX3_calibrate_81 (by decide) (q := 84) rfl (fun c_81 => ?_) (fun c_81 => ?_)
            · skip
              obtain ⟨f_5_0, f_5_1, f_5_2, f_5_3, f_5_4, f_5_5, f_5_6, f_5_7, f_5_8⟩ := hI.ins c_81 (by omega)
              refine j_aloadq X dX3_calibrate_88 (q := 90) rfl 1 rfl ?_
              refine j_getp X (v := va_rf (pt (ad 1) (S 14 z))) fl_X3_50 k1.1 (hC.ins k1.1 k1.2) rfl dX3_calibrate_90 (q := 93) rfl ?_
              refine j_getp X (v := va_rf (pt (ad 2) (S 15 (S 14 z)))) fl_X3_95 c_81 (hC.ins c_81 (by omega)) rfl dX3_calibrate_93 (q := 96) rfl ?_
              have hbs : bas S z = S 15 (S 14 z) := by rw [bas, if_neg (by omega)]
              rw [show va_rf (pt (ad 2) (S 15 (S 14 z))) = va_rf (pt (ad 2) (bas S z)) from by rw [hbs]]
              have hbb : -1 ≤ bas S z ∧ bas S z < nc := by omega
              refine j_astoreq X (i := 6) dX3_calibrate_96 (by decide) (q := 98) rfl (lv' := [(6, va_rf (pt (ad 2) (bas S z))), (5, .int (iI (S 5 0))), (4, va_rf (pt (ad 1) (z))), (0, .ref (ad 0 0)), (1, .int (iI (z))), (2, .int (iI (x))), (3, .int (iI (lf)))]) (by first | rfl | simp [cat_rf, cat_i, cat_l, cat_r]) ?_
              refine j_new X nw_X3_21 (by decide) (by decide) dX3_calibrate_98 (q := 101) rfl (fun a hb hn0 => ?_)
              have hca : (wu w a (.inr (0, [.int 0, .int 0, .int 0, .null, .null, .int 0, .int 0, .int 0, .int 0, .int 0]))) (ad 0 0) = some (cCal ad S 0) := (wu_n (fun z => by rw [← z, hC.cal] at hn0; cases hn0)).trans hC.cal
              have hci : (wu w a (.inr (0, [.int 0, .int 0, .int 0, .null, .null, .int 0, .int 0, .int 0, .int 0, .int 0]))) (ad 1 z) = some (cIns ad S z) := (wu_n (fun q => by rw [← q, hC.ins k1.1 k1.2] at hn0; cases hn0)).trans (hC.ins k1.1 k1.2)
              refine j_dup X (by first | rfl | exact cat_rf _) dX3_calibrate_101 (q := 102) rfl ?_
              refine j_aload_n X dX3_calibrate_102 (q := 103) rfl 3 rfl ?_
              refine j_get X (v := .int (iI (S 8 0))) fl_X3_99 hca rfl dX3_calibrate_103 (q := 106) rfl ?_
              refine j_aload_n X dX3_calibrate_106 (q := 107) rfl 3 rfl ?_
              refine j_get X (v := .int (iI (S 7 0))) fl_X3_69 hca rfl dX3_calibrate_107 (q := 110) rfl ?_
              refine j_iload_n X dX3_calibrate_110 (q := 111) rfl 6 rfl ?_
              refine j_aloadq X dX3_calibrate_111 (q := 113) rfl 2 rfl ?_
              refine j_getp X (v := va_rf (pt (ad 2) (S 15 z))) fl_X3_95 k1.1 hci rfl dX3_calibrate_113 (q := 116) rfl ?_
              refine j_aloadq X dX3_calibrate_116 (q := 118) rfl 0 rfl ?_
              refine j_callI X (As := [.int (iI (S 8 0)), .int (iI (S 7 0)), .int (iI (lf)), va_rf (pt (ad 2) (S 15 z)), va_rf (pt (ad 2) (bas S z))]) (st := [.ref (a)]) (c_X0_init hlt (S 8 0) (S 7 0) lf (pt (ad 2) (S 15 z)) (pt (ad 2) (bas S z)) a wu_s hb) si_X3_102 (by decide) rfl (by first | decide | simp [cat_rf, cat_i, cat_l, cat_r]) dX3_calibrate_118 (by decide) (fun _ _ h => h.elim) ?_
              rintro v9 w9 ⟨rfl, rfl⟩
              have hC1 := CW.newK hC hI hn0 hb (kaF S z lf)
              have hF1 : Fr 0 w (wu w a (cKal (adn ad 2 nc a) (nwK S nc (kaF S z lf)) nc)) := Fr.new hn0
              refine j_w (w' := wu w a (cKal (adn ad 2 nc a) (nwK S nc (kaF S z lf)) nc)) (by rw [wu_wu]; simp only [cKal, nwK_s (show 20 ≤ 20 ∧ 20 ≤ 29 by decide), nwK_s (show 20 ≤ 21 ∧ 21 ≤ 29 by decide), nwK_s (show 20 ≤ 22 ∧ 22 ≤ 29 by decide), nwK_s (show 20 ≤ 23 ∧ 23 ≤ 29 by decide), nwK_s (show 20 ≤ 24 ∧ 24 ≤ 29 by decide), nwK_s (show 20 ≤ 25 ∧ 25 ≤ 29 by decide), nwK_s (show 20 ≤ 26 ∧ 26 ≤ 29 by decide), nwK_s (show 20 ≤ 27 ∧ 27 ≤ 29 by decide), nwK_s (show 20 ≤ 28 ∧ 28 ≤ 29 by decide), nwK_s (show 20 ≤ 29 ∧ 29 ≤ 29 by decide)]; rw [show kaF S z lf 23 = S 15 z from rfl, show kaF S z lf 24 = bas S z from rfl, pt_adn (show S 15 z ≠ nc by omega), pt_adn (show bas S z ≠ nc by omega)]; rfl) ?_
              generalize (wu w a (cKal (adn ad 2 nc a) (nwK S nc (kaF S z lf)) nc)) = w1 at hC1 hF1 ⊢
              have hI1 := IC.ka1 hI hlc k1 b2 hbb
              have hC1 : CW base ca (adn ad 2 nc a) n (nc + 1) nm (ka1 S nc z lf) w1 := hC1
              have ok : ∀ (g : Nat) (j : Int), (j ≠ nc ∨ g < 20 ∨ 29 < g) → ka1 S nc z lf g j = S g j := fun g j h => nwK_o h
              refine j_st (st := [va_rf (some a)]) ?_
              rw [show (va_rf (some a)) = va_rf (pt (adn ad 2 nc a 2) nc) from by rw [pt_s (by omega), adn_s]]
              refine j_astoreq X (i := 7) dX3_calibrate_121 (by decide) (q := 123) rfl (lv' := [(7, va_rf (pt (adn ad 2 nc a 2) nc)), (6, va_rf (pt (ad 2) (bas S z))), (5, .int (iI (S 5 0))), (4, va_rf (pt (ad 1) (z))), (0, .ref (ad 0 0)), (1, .int (iI (z))), (2, .int (iI (x))), (3, .int (iI (lf)))]) (by first | rfl | simp [cat_rf, cat_i, cat_l, cat_r]) ?_
              refine j_aloadq X dX3_calibrate_123 (q := 125) rfl 3 rfl ?_
              have e15 : ka1 S nc z lf 15 z = S 15 z := ok 15 z (by omega)
              refine j_getp X (v := va_rf (pt (adn ad 2 nc a 2) (ka1 S nc z lf 15 z))) fl_X3_95 k1.1 (hC1.ins k1.1 k1.2) rfl dX3_calibrate_125 (q := 128) rfl ?_
              rw [e15]
              refine j_ifnonnullp X (tgt := 135) dX3_calibrate_128 (by decide) (q := 131) rfl (fun c_128 => ?_) (fun c_128 => ?_)
              · skip
                refine j_aload_n X dX3_calibrate_135 (q := 136) rfl 4 rfl ?_
                refine j_aloadq X dX3_calibrate_136 (q := 138) rfl 3 rfl ?_
                refine j_aloadq X dX3_calibrate_138 (q := 140) rfl 3 rfl ?_
                refine j_getp X (v := va_rf (pt (adn ad 2 nc a 2) (ka1 S nc z lf 15 z))) fl_X3_95 k1.1 (hC1.ins k1.1 k1.2) rfl dX3_calibrate_140 (q := 143) rfl ?_
                rw [e15]
                refine j_aloadq X dX3_calibrate_143 (q := 145) rfl 0 rfl ?_
                refine j_iload_n X dX3_calibrate_145 (q := 146) rfl 6 rfl ?_
                have e16 : ka1 S nc z lf 16 z = S 16 z := ok 16 z (by omega)
                refine j_callV X (As := [va_rf (pt (adn ad 2 nc a 1) (z)), va_rf (pt (adn ad 2 nc a 2) (S 15 z)), va_rf (pt (adn ad 2 nc a 2) nc), .int (iI (x))]) (st := []) hC1.cal rfl (c_X3_settle hlt hC1 hI1 z (S 15 z) nc x k1 ⟨c_128, by omega⟩ ⟨by omega, by omega⟩ b1 (by omega)) sv_X3_105 (by decide) rfl (by decide) dX3_calibrate_146 (by decide) (fun _ _ h => h.elim) ?_
                rintro v9 w2 ⟨rfl, ⟨hC2, hI2⟩, hF2⟩
                have hRr : kaR S nc nm z x lf = stR (ka1 S nc z lf) nm z (S 15 z) nc x := by rw [kaR, if_neg (show ¬ S 15 z < 0 by omega)]
                have hSS : ka2 S nc nm z x lf = st5 (ka1 S nc z lf) nm z (S 15 z) nc x := by rw [ka2, if_neg (show ¬ S 15 z < 0 by omega)]
                rw [← hSS] at hC2 hI2
                rw [← hRr]
                have hF3 := hF1.tr hF2
                refine j_st (st := [.int (iI (kaR S nc nm z x lf))]) ?_
                refine j_istore X (i := 8) dX3_calibrate_149 (by decide) (q := 151) rfl (lv' := [(8, .int (iI (kaR S nc nm z x lf))), (7, va_rf (pt (adn ad 2 nc a 2) nc)), (6, va_rf (pt (ad 2) (bas S z))), (5, .int (iI (S 5 0))), (4, va_rf (pt (ad 1) (z))), (0, .ref (ad 0 0)), (1, .int (iI (z))), (2, .int (iI (x))), (3, .int (iI (lf)))]) (by first | rfl | simp [cat_rf, cat_i, cat_l, cat_r]) ?_
                refine j_aloadq X dX3_calibrate_151 (q := 153) rfl 4 rfl ?_
                refine j_aloadq X dX3_calibrate_153 (q := 155) rfl 1 rfl ?_
                refine jp_15 X (ad := adn ad 2 nc a) fp_X3_95 hC2 k1.1 k1.2 dX3_calibrate_155 (q := 158) rfl (fun w4 hC4 hF4 => ?_)
                have hI4 := IC.up15 hI2 (i := z) (v := nc) (by omega)
                have hC4 : CW base ca (adn ad 2 nc a) n (nc + 1) nm (ka3 S nc nm z x lf) w4 := hC4
                have hI4 : IC n (nc + 1) nm (ka3 S nc nm z x lf) := hI4
                refine j_aloadq X dX3_calibrate_158 (q := 160) rfl 4 rfl ?_
                refine j_callS X (As := [va_rf (pt (adn ad 2 nc a 1) (z))]) (st := []) (c_X3_sumPoints hlt hC4 hI4 z k1) ss_X3_109 (by decide) rfl (by decide) dX3_calibrate_160 (by decide) (fun _ _ h => h.elim) ?_
                rintro v9 w5 ⟨rfl, hC5, hF5⟩
                refine j_st (st := []) ?_
                have keep5 : spS (ka3 S nc nm z x lf) z 5 0 = nc := by
                  rw [spS, up_f (by decide), up_f (by decide), ka3, up_f (by decide), ka2_at (g := 5) (j := 0) (by decide), ok 5 0 (by omega), h5]
                have keep8 : spS (ka3 S nc nm z x lf) z 8 0 = S 8 0 := by
                  rw [spS, up_f (by decide), up_f (by decide), ka3, up_f (by decide), ka2_at (g := 8) (j := 0) (by decide), ok 8 0 (by omega)]
                refine j_aload_n X dX3_calibrate_163 (q := 164) rfl 5 rfl ?_
                refine j_get X (v := .ref (ad 0 3)) fl_X3_23 (a := ad 0 0) hC5.cal rfl dX3_calibrate_164 (q := 167) rfl ?_
                refine j_iload X dX3_calibrate_167 (q := 169) rfl 3 rfl ?_
                refine j_aloadq X dX3_calibrate_169 (q := 171) rfl 1 rfl ?_
                rw [show va_rf (pt (adn ad 2 nc a 2) nc) = (Value.ref a : Value) from by rw [pt_s (by omega), adn_s]; rfl]
                rw [h5]
                refine ja_5 X (ad := adn ad 2 nc a) hC5 keep5 (by omega) (by omega) (by omega) adn_s.symm dX3_calibrate_171 (q := 172) rfl ?_
                refine j_aload_n X dX3_calibrate_172 (q := 173) rfl 5 rfl ?_
                refine j_iload X dX3_calibrate_173 (q := 175) rfl 3 rfl ?_
                refine j_iconst X (a := 1) dX3_calibrate_175 (q := 176) rfl ?_
                refine j_iadd X dX3_calibrate_176 (q := 177) rfl ?_
                refine jb_5 X (ad := adn ad 2 nc a) fp_X3_92 hC5 keep5 (by omega) dX3_calibrate_177 (q := 180) rfl (fun w6 hC6 hF6 => ?_)
                refine j_aload_n X dX3_calibrate_180 (q := 181) rfl 5 rfl ?_
                refine j_dup X (by first | rfl | exact cat_rf _) dX3_calibrate_181 (q := 182) rfl ?_
                refine j_get X (v := .int (iI (S 8 0))) fl_X3_99 (a := ad 0 0) hC6.cal (by show some (Value.int (iI (up (spS (ka3 S nc nm z x lf) z) 5 0 (nc + 1) 8 0))) = _; rw [up_f (by decide), keep8]) dX3_calibrate_182 (q := 185) rfl ?_
                refine j_iconst X (a := 1) dX3_calibrate_185 (q := 186) rfl ?_
                refine j_iadd X dX3_calibrate_186 (q := 187) rfl ?_
                refine jp_8 X fp_X3_99 (ad := adn ad 2 nc a) hC6 dX3_calibrate_187 (q := 190) rfl (fun w7 hC7 hF7 => ?_)
                refine j_iload X dX3_calibrate_190 (q := 192) rfl 0 rfl ?_
                exact j_iret X rfl dX3_calibrate_192 (⟨⟨k1, ⟨b1, b2⟩, b3⟩, rfl, ⟨adn ad 2 nc a, hC7, rfl⟩, (((hF3.tr hF4).tr hF5).tr hF6).tr hF7⟩) (by decide) (by decide)
              · skip
                refine j_iconst X (a := 0) dX3_calibrate_131 (q := 132) rfl ?_
                refine j_goto X (tgt := 149) dX3_calibrate_132 (by decide) ?_
                have hRr : kaR S nc nm z x lf = 0 := by rw [kaR, if_pos c_128]
                have hSS : ka2 S nc nm z x lf = ka1 S nc z lf := by rw [ka2, if_pos c_128]
                have hC2 := hC1
                have hI2 := hI1
                rw [← hSS] at hC2 hI2
                have hF3 := hF1
                refine j_sc (st' := [.int (iI (kaR S nc nm z x lf))]) (by rw [hRr]) ?_
                refine j_istore X (i := 8) dX3_calibrate_149 (by decide) (q := 151) rfl (lv' := [(8, .int (iI (kaR S nc nm z x lf))), (7, va_rf (pt (adn ad 2 nc a 2) nc)), (6, va_rf (pt (ad 2) (bas S z))), (5, .int (iI (S 5 0))), (4, va_rf (pt (ad 1) (z))), (0, .ref (ad 0 0)), (1, .int (iI (z))), (2, .int (iI (x))), (3, .int (iI (lf)))]) (by first | rfl | simp [cat_rf, cat_i, cat_l, cat_r]) ?_
                refine j_aloadq X dX3_calibrate_151 (q := 153) rfl 4 rfl ?_
                refine j_aloadq X dX3_calibrate_153 (q := 155) rfl 1 rfl ?_
                refine jp_15 X (ad := adn ad 2 nc a) fp_X3_95 hC2 k1.1 k1.2 dX3_calibrate_155 (q := 158) rfl (fun w4 hC4 hF4 => ?_)
                have hI4 := IC.up15 hI2 (i := z) (v := nc) (by omega)
                have hC4 : CW base ca (adn ad 2 nc a) n (nc + 1) nm (ka3 S nc nm z x lf) w4 := hC4
                have hI4 : IC n (nc + 1) nm (ka3 S nc nm z x lf) := hI4
                refine j_aloadq X dX3_calibrate_158 (q := 160) rfl 4 rfl ?_
                refine j_callS X (As := [va_rf (pt (adn ad 2 nc a 1) (z))]) (st := []) (c_X3_sumPoints hlt hC4 hI4 z k1) ss_X3_109 (by decide) rfl (by decide) dX3_calibrate_160 (by decide) (fun _ _ h => h.elim) ?_
                rintro v9 w5 ⟨rfl, hC5, hF5⟩
                refine j_st (st := []) ?_
                have keep5 : spS (ka3 S nc nm z x lf) z 5 0 = nc := by
                  rw [spS, up_f (by decide), up_f (by decide), ka3, up_f (by decide), ka2_at (g := 5) (j := 0) (by decide), ok 5 0 (by omega), h5]
                have keep8 : spS (ka3 S nc nm z x lf) z 8 0 = S 8 0 := by
                  rw [spS, up_f (by decide), up_f (by decide), ka3, up_f (by decide), ka2_at (g := 8) (j := 0) (by decide), ok 8 0 (by omega)]
                refine j_aload_n X dX3_calibrate_163 (q := 164) rfl 5 rfl ?_
                refine j_get X (v := .ref (ad 0 3)) fl_X3_23 (a := ad 0 0) hC5.cal rfl dX3_calibrate_164 (q := 167) rfl ?_
                refine j_iload X dX3_calibrate_167 (q := 169) rfl 3 rfl ?_
                refine j_aloadq X dX3_calibrate_169 (q := 171) rfl 1 rfl ?_
                rw [show va_rf (pt (adn ad 2 nc a 2) nc) = (Value.ref a : Value) from by rw [pt_s (by omega), adn_s]; rfl]
                rw [h5]
                refine ja_5 X (ad := adn ad 2 nc a) hC5 keep5 (by omega) (by omega) (by omega) adn_s.symm dX3_calibrate_171 (q := 172) rfl ?_
                refine j_aload_n X dX3_calibrate_172 (q := 173) rfl 5 rfl ?_
                refine j_iload X dX3_calibrate_173 (q := 175) rfl 3 rfl ?_
                refine j_iconst X (a := 1) dX3_calibrate_175 (q := 176) rfl ?_
                refine j_iadd X dX3_calibrate_176 (q := 177) rfl ?_
                refine jb_5 X (ad := adn ad 2 nc a) fp_X3_92 hC5 keep5 (by omega) dX3_calibrate_177 (q := 180) rfl (fun w6 hC6 hF6 => ?_)
                refine j_aload_n X dX3_calibrate_180 (q := 181) rfl 5 rfl ?_
                refine j_dup X (by first | rfl | exact cat_rf _) dX3_calibrate_181 (q := 182) rfl ?_
                refine j_get X (v := .int (iI (S 8 0))) fl_X3_99 (a := ad 0 0) hC6.cal (by show some (Value.int (iI (up (spS (ka3 S nc nm z x lf) z) 5 0 (nc + 1) 8 0))) = _; rw [up_f (by decide), keep8]) dX3_calibrate_182 (q := 185) rfl ?_
                refine j_iconst X (a := 1) dX3_calibrate_185 (q := 186) rfl ?_
                refine j_iadd X dX3_calibrate_186 (q := 187) rfl ?_
                refine jp_8 X fp_X3_99 (ad := adn ad 2 nc a) hC6 dX3_calibrate_187 (q := 190) rfl (fun w7 hC7 hF7 => ?_)
                refine j_iload X dX3_calibrate_190 (q := 192) rfl 0 rfl ?_
                exact j_iret X rfl dX3_calibrate_192 (⟨⟨k1, ⟨b1, b2⟩, b3⟩, rfl, ⟨adn ad 2 nc a, hC7, rfl⟩, (((hF3.tr hF4).tr hF5).tr hF6).tr hF7⟩) (by decide) (by decide)
            · skip
              refine j_null X dX3_calibrate_84 (q := 85) rfl ?_
              refine j_goto X (tgt := 96) dX3_calibrate_85 (by decide) ?_
              have hbs : bas S z = -1 := by rw [bas, if_pos c_81]
              rw [show va_rf none = va_rf (pt (ad 2) (bas S z)) from by rw [hbs]; rfl]
              have hbb : -1 ≤ bas S z ∧ bas S z < nc := by omega
              refine j_astoreq X (i := 6) dX3_calibrate_96 (by decide) (q := 98) rfl (lv' := [(6, va_rf (pt (ad 2) (bas S z))), (5, .int (iI (S 5 0))), (4, va_rf (pt (ad 1) (z))), (0, .ref (ad 0 0)), (1, .int (iI (z))), (2, .int (iI (x))), (3, .int (iI (lf)))]) (by first | rfl | simp [cat_rf, cat_i, cat_l, cat_r]) ?_
              refine j_new X nw_X3_21 (by decide) (by decide) dX3_calibrate_98 (q := 101) rfl (fun a hb hn0 => ?_)
              have hca : (wu w a (.inr (0, [.int 0, .int 0, .int 0, .null, .null, .int 0, .int 0, .int 0, .int 0, .int 0]))) (ad 0 0) = some (cCal ad S 0) := (wu_n (fun z => by rw [← z, hC.cal] at hn0; cases hn0)).trans hC.cal
              have hci : (wu w a (.inr (0, [.int 0, .int 0, .int 0, .null, .null, .int 0, .int 0, .int 0, .int 0, .int 0]))) (ad 1 z) = some (cIns ad S z) := (wu_n (fun q => by rw [← q, hC.ins k1.1 k1.2] at hn0; cases hn0)).trans (hC.ins k1.1 k1.2)
              refine j_dup X (by first | rfl | exact cat_rf _) dX3_calibrate_101 (q := 102) rfl ?_
              refine j_aload_n X dX3_calibrate_102 (q := 103) rfl 3 rfl ?_
              refine j_get X (v := .int (iI (S 8 0))) fl_X3_99 hca rfl dX3_calibrate_103 (q := 106) rfl ?_
              refine j_aload_n X dX3_calibrate_106 (q := 107) rfl 3 rfl ?_
              refine j_get X (v := .int (iI (S 7 0))) fl_X3_69 hca rfl dX3_calibrate_107 (q := 110) rfl ?_
              refine j_iload_n X dX3_calibrate_110 (q := 111) rfl 6 rfl ?_
              refine j_aloadq X dX3_calibrate_111 (q := 113) rfl 2 rfl ?_
              refine j_getp X (v := va_rf (pt (ad 2) (S 15 z))) fl_X3_95 k1.1 hci rfl dX3_calibrate_113 (q := 116) rfl ?_
              refine j_aloadq X dX3_calibrate_116 (q := 118) rfl 0 rfl ?_
              refine j_callI X (As := [.int (iI (S 8 0)), .int (iI (S 7 0)), .int (iI (lf)), va_rf (pt (ad 2) (S 15 z)), va_rf (pt (ad 2) (bas S z))]) (st := [.ref (a)]) (c_X0_init hlt (S 8 0) (S 7 0) lf (pt (ad 2) (S 15 z)) (pt (ad 2) (bas S z)) a wu_s hb) si_X3_102 (by decide) rfl (by first | decide | simp [cat_rf, cat_i, cat_l, cat_r]) dX3_calibrate_118 (by decide) (fun _ _ h => h.elim) ?_
              rintro v9 w9 ⟨rfl, rfl⟩
              have hC1 := CW.newK hC hI hn0 hb (kaF S z lf)
              have hF1 : Fr 0 w (wu w a (cKal (adn ad 2 nc a) (nwK S nc (kaF S z lf)) nc)) := Fr.new hn0
              refine j_w (w' := wu w a (cKal (adn ad 2 nc a) (nwK S nc (kaF S z lf)) nc)) (by rw [wu_wu]; simp only [cKal, nwK_s (show 20 ≤ 20 ∧ 20 ≤ 29 by decide), nwK_s (show 20 ≤ 21 ∧ 21 ≤ 29 by decide), nwK_s (show 20 ≤ 22 ∧ 22 ≤ 29 by decide), nwK_s (show 20 ≤ 23 ∧ 23 ≤ 29 by decide), nwK_s (show 20 ≤ 24 ∧ 24 ≤ 29 by decide), nwK_s (show 20 ≤ 25 ∧ 25 ≤ 29 by decide), nwK_s (show 20 ≤ 26 ∧ 26 ≤ 29 by decide), nwK_s (show 20 ≤ 27 ∧ 27 ≤ 29 by decide), nwK_s (show 20 ≤ 28 ∧ 28 ≤ 29 by decide), nwK_s (show 20 ≤ 29 ∧ 29 ≤ 29 by decide)]; rw [show kaF S z lf 23 = S 15 z from rfl, show kaF S z lf 24 = bas S z from rfl, pt_adn (show S 15 z ≠ nc by omega), pt_adn (show bas S z ≠ nc by omega)]; rfl) ?_
              generalize (wu w a (cKal (adn ad 2 nc a) (nwK S nc (kaF S z lf)) nc)) = w1 at hC1 hF1 ⊢
              have hI1 := IC.ka1 hI hlc k1 b2 hbb
              have hC1 : CW base ca (adn ad 2 nc a) n (nc + 1) nm (ka1 S nc z lf) w1 := hC1
              have ok : ∀ (g : Nat) (j : Int), (j ≠ nc ∨ g < 20 ∨ 29 < g) → ka1 S nc z lf g j = S g j := fun g j h => nwK_o h
              refine j_st (st := [va_rf (some a)]) ?_
              rw [show (va_rf (some a)) = va_rf (pt (adn ad 2 nc a 2) nc) from by rw [pt_s (by omega), adn_s]]
              refine j_astoreq X (i := 7) dX3_calibrate_121 (by decide) (q := 123) rfl (lv' := [(7, va_rf (pt (adn ad 2 nc a 2) nc)), (6, va_rf (pt (ad 2) (bas S z))), (5, .int (iI (S 5 0))), (4, va_rf (pt (ad 1) (z))), (0, .ref (ad 0 0)), (1, .int (iI (z))), (2, .int (iI (x))), (3, .int (iI (lf)))]) (by first | rfl | simp [cat_rf, cat_i, cat_l, cat_r]) ?_
              refine j_aloadq X dX3_calibrate_123 (q := 125) rfl 3 rfl ?_
              have e15 : ka1 S nc z lf 15 z = S 15 z := ok 15 z (by omega)
              refine j_getp X (v := va_rf (pt (adn ad 2 nc a 2) (ka1 S nc z lf 15 z))) fl_X3_95 k1.1 (hC1.ins k1.1 k1.2) rfl dX3_calibrate_125 (q := 128) rfl ?_
              rw [e15]
              refine j_ifnonnullp X (tgt := 135) dX3_calibrate_128 (by decide) (q := 131) rfl (fun c_128 => ?_) (fun c_128 => ?_)
              · skip
                refine j_aload_n X dX3_calibrate_135 (q := 136) rfl 4 rfl ?_
                refine j_aloadq X dX3_calibrate_136 (q := 138) rfl 3 rfl ?_
                refine j_aloadq X dX3_calibrate_138 (q := 140) rfl 3 rfl ?_
                refine j_getp X (v := va_rf (pt (adn ad 2 nc a 2) (ka1 S nc z lf 15 z))) fl_X3_95 k1.1 (hC1.ins k1.1 k1.2) rfl dX3_calibrate_140 (q := 143) rfl ?_
                rw [e15]
                refine j_aloadq X dX3_calibrate_143 (q := 145) rfl 0 rfl ?_
                refine j_iload_n X dX3_calibrate_145 (q := 146) rfl 6 rfl ?_
                have e16 : ka1 S nc z lf 16 z = S 16 z := ok 16 z (by omega)
                refine j_callV X (As := [va_rf (pt (adn ad 2 nc a 1) (z)), va_rf (pt (adn ad 2 nc a 2) (S 15 z)), va_rf (pt (adn ad 2 nc a 2) nc), .int (iI (x))]) (st := []) hC1.cal rfl (c_X3_settle hlt hC1 hI1 z (S 15 z) nc x k1 ⟨c_128, by omega⟩ ⟨by omega, by omega⟩ b1 (by omega)) sv_X3_105 (by decide) rfl (by decide) dX3_calibrate_146 (by decide) (fun _ _ h => h.elim) ?_
                rintro v9 w2 ⟨rfl, ⟨hC2, hI2⟩, hF2⟩
                have hRr : kaR S nc nm z x lf = stR (ka1 S nc z lf) nm z (S 15 z) nc x := by rw [kaR, if_neg (show ¬ S 15 z < 0 by omega)]
                have hSS : ka2 S nc nm z x lf = st5 (ka1 S nc z lf) nm z (S 15 z) nc x := by rw [ka2, if_neg (show ¬ S 15 z < 0 by omega)]
                rw [← hSS] at hC2 hI2
                rw [← hRr]
                have hF3 := hF1.tr hF2
                refine j_st (st := [.int (iI (kaR S nc nm z x lf))]) ?_
                refine j_istore X (i := 8) dX3_calibrate_149 (by decide) (q := 151) rfl (lv' := [(8, .int (iI (kaR S nc nm z x lf))), (7, va_rf (pt (adn ad 2 nc a 2) nc)), (6, va_rf (pt (ad 2) (bas S z))), (5, .int (iI (S 5 0))), (4, va_rf (pt (ad 1) (z))), (0, .ref (ad 0 0)), (1, .int (iI (z))), (2, .int (iI (x))), (3, .int (iI (lf)))]) (by first | rfl | simp [cat_rf, cat_i, cat_l, cat_r]) ?_
                refine j_aloadq X dX3_calibrate_151 (q := 153) rfl 4 rfl ?_
                refine j_aloadq X dX3_calibrate_153 (q := 155) rfl 1 rfl ?_
                refine jp_15 X (ad := adn ad 2 nc a) fp_X3_95 hC2 k1.1 k1.2 dX3_calibrate_155 (q := 158) rfl (fun w4 hC4 hF4 => ?_)
                have hI4 := IC.up15 hI2 (i := z) (v := nc) (by omega)
                have hC4 : CW base ca (adn ad 2 nc a) n (nc + 1) nm (ka3 S nc nm z x lf) w4 := hC4
                have hI4 : IC n (nc + 1) nm (ka3 S nc nm z x lf) := hI4
                refine j_aloadq X dX3_calibrate_158 (q := 160) rfl 4 rfl ?_
                refine j_callS X (As := [va_rf (pt (adn ad 2 nc a 1) (z))]) (st := []) (c_X3_sumPoints hlt hC4 hI4 z k1) ss_X3_109 (by decide) rfl (by decide) dX3_calibrate_160 (by decide) (fun _ _ h => h.elim) ?_
                rintro v9 w5 ⟨rfl, hC5, hF5⟩
                refine j_st (st := []) ?_
                have keep5 : spS (ka3 S nc nm z x lf) z 5 0 = nc := by
                  rw [spS, up_f (by decide), up_f (by decide), ka3, up_f (by decide), ka2_at (g := 5) (j := 0) (by decide), ok 5 0 (by omega), h5]
                have keep8 : spS (ka3 S nc nm z x lf) z 8 0 = S 8 0 := by
                  rw [spS, up_f (by decide), up_f (by decide), ka3, up_f (by decide), ka2_at (g := 8) (j := 0) (by decide), ok 8 0 (by omega)]
                refine j_aload_n X dX3_calibrate_163 (q := 164) rfl 5 rfl ?_
                refine j_get X (v := .ref (ad 0 3)) fl_X3_23 (a := ad 0 0) hC5.cal rfl dX3_calibrate_164 (q := 167) rfl ?_
                refine j_iload X dX3_calibrate_167 (q := 169) rfl 3 rfl ?_
                refine j_aloadq X dX3_calibrate_169 (q := 171) rfl 1 rfl ?_
                rw [show va_rf (pt (adn ad 2 nc a 2) nc) = (Value.ref a : Value) from by rw [pt_s (by omega), adn_s]; rfl]
                rw [h5]
                refine ja_5 X (ad := adn ad 2 nc a) hC5 keep5 (by omega) (by omega) (by omega) adn_s.symm dX3_calibrate_171 (q := 172) rfl ?_
                refine j_aload_n X dX3_calibrate_172 (q := 173) rfl 5 rfl ?_
                refine j_iload X dX3_calibrate_173 (q := 175) rfl 3 rfl ?_
                refine j_iconst X (a := 1) dX3_calibrate_175 (q := 176) rfl ?_
                refine j_iadd X dX3_calibrate_176 (q := 177) rfl ?_
                refine jb_5 X (ad := adn ad 2 nc a) fp_X3_92 hC5 keep5 (by omega) dX3_calibrate_177 (q := 180) rfl (fun w6 hC6 hF6 => ?_)
                refine j_aload_n X dX3_calibrate_180 (q := 181) rfl 5 rfl ?_
                refine j_dup X (by first | rfl | exact cat_rf _) dX3_calibrate_181 (q := 182) rfl ?_
                refine j_get X (v := .int (iI (S 8 0))) fl_X3_99 (a := ad 0 0) hC6.cal (by show some (Value.int (iI (up (spS (ka3 S nc nm z x lf) z) 5 0 (nc + 1) 8 0))) = _; rw [up_f (by decide), keep8]) dX3_calibrate_182 (q := 185) rfl ?_
                refine j_iconst X (a := 1) dX3_calibrate_185 (q := 186) rfl ?_
                refine j_iadd X dX3_calibrate_186 (q := 187) rfl ?_
                refine jp_8 X fp_X3_99 (ad := adn ad 2 nc a) hC6 dX3_calibrate_187 (q := 190) rfl (fun w7 hC7 hF7 => ?_)
                refine j_iload X dX3_calibrate_190 (q := 192) rfl 0 rfl ?_
                exact j_iret X rfl dX3_calibrate_192 (⟨⟨k1, ⟨b1, b2⟩, b3⟩, rfl, ⟨adn ad 2 nc a, hC7, rfl⟩, (((hF3.tr hF4).tr hF5).tr hF6).tr hF7⟩) (by decide) (by decide)
              · skip
                refine j_iconst X (a := 0) dX3_calibrate_131 (q := 132) rfl ?_
                refine j_goto X (tgt := 149) dX3_calibrate_132 (by decide) ?_
                have hRr : kaR S nc nm z x lf = 0 := by rw [kaR, if_pos c_128]
                have hSS : ka2 S nc nm z x lf = ka1 S nc z lf := by rw [ka2, if_pos c_128]
                have hC2 := hC1
                have hI2 := hI1
                rw [← hSS] at hC2 hI2
                have hF3 := hF1
                refine j_sc (st' := [.int (iI (kaR S nc nm z x lf))]) (by rw [hRr]) ?_
                refine j_istore X (i := 8) dX3_calibrate_149 (by decide) (q := 151) rfl (lv' := [(8, .int (iI (kaR S nc nm z x lf))), (7, va_rf (pt (adn ad 2 nc a 2) nc)), (6, va_rf (pt (ad 2) (bas S z))), (5, .int (iI (S 5 0))), (4, va_rf (pt (ad 1) (z))), (0, .ref (ad 0 0)), (1, .int (iI (z))), (2, .int (iI (x))), (3, .int (iI (lf)))]) (by first | rfl | simp [cat_rf, cat_i, cat_l, cat_r]) ?_
                refine j_aloadq X dX3_calibrate_151 (q := 153) rfl 4 rfl ?_
                refine j_aloadq X dX3_calibrate_153 (q := 155) rfl 1 rfl ?_
                refine jp_15 X (ad := adn ad 2 nc a) fp_X3_95 hC2 k1.1 k1.2 dX3_calibrate_155 (q := 158) rfl (fun w4 hC4 hF4 => ?_)
                have hI4 := IC.up15 hI2 (i := z) (v := nc) (by omega)
                have hC4 : CW base ca (adn ad 2 nc a) n (nc + 1) nm (ka3 S nc nm z x lf) w4 := hC4
                have hI4 : IC n (nc + 1) nm (ka3 S nc nm z x lf) := hI4
                refine j_aloadq X dX3_calibrate_158 (q := 160) rfl 4 rfl ?_
                refine j_callS X (As := [va_rf (pt (adn ad 2 nc a 1) (z))]) (st := []) (c_X3_sumPoints hlt hC4 hI4 z k1) ss_X3_109 (by decide) rfl (by decide) dX3_calibrate_160 (by decide) (fun _ _ h => h.elim) ?_
                rintro v9 w5 ⟨rfl, hC5, hF5⟩
                refine j_st (st := []) ?_
                have keep5 : spS (ka3 S nc nm z x lf) z 5 0 = nc := by
                  rw [spS, up_f (by decide), up_f (by decide), ka3, up_f (by decide), ka2_at (g := 5) (j := 0) (by decide), ok 5 0 (by omega), h5]
                have keep8 : spS (ka3 S nc nm z x lf) z 8 0 = S 8 0 := by
                  rw [spS, up_f (by decide), up_f (by decide), ka3, up_f (by decide), ka2_at (g := 8) (j := 0) (by decide), ok 8 0 (by omega)]
                refine j_aload_n X dX3_calibrate_163 (q := 164) rfl 5 rfl ?_
                refine j_get X (v := .ref (ad 0 3)) fl_X3_23 (a := ad 0 0) hC5.cal rfl dX3_calibrate_164 (q := 167) rfl ?_
                refine j_iload X dX3_calibrate_167 (q := 169) rfl 3 rfl ?_
                refine j_aloadq X dX3_calibrate_169 (q := 171) rfl 1 rfl ?_
                rw [show va_rf (pt (adn ad 2 nc a 2) nc) = (Value.ref a : Value) from by rw [pt_s (by omega), adn_s]; rfl]
                rw [h5]
                refine ja_5 X (ad := adn ad 2 nc a) hC5 keep5 (by omega) (by omega) (by omega) adn_s.symm dX3_calibrate_171 (q := 172) rfl ?_
                refine j_aload_n X dX3_calibrate_172 (q := 173) rfl 5 rfl ?_
                refine j_iload X dX3_calibrate_173 (q := 175) rfl 3 rfl ?_
                refine j_iconst X (a := 1) dX3_calibrate_175 (q := 176) rfl ?_
                refine j_iadd X dX3_calibrate_176 (q := 177) rfl ?_
                refine jb_5 X (ad := adn ad 2 nc a) fp_X3_92 hC5 keep5 (by omega) dX3_calibrate_177 (q := 180) rfl (fun w6 hC6 hF6 => ?_)
                refine j_aload_n X dX3_calibrate_180 (q := 181) rfl 5 rfl ?_
                refine j_dup X (by first | rfl | exact cat_rf _) dX3_calibrate_181 (q := 182) rfl ?_
                refine j_get X (v := .int (iI (S 8 0))) fl_X3_99 (a := ad 0 0) hC6.cal (by show some (Value.int (iI (up (spS (ka3 S nc nm z x lf) z) 5 0 (nc + 1) 8 0))) = _; rw [up_f (by decide), keep8]) dX3_calibrate_182 (q := 185) rfl ?_
                refine j_iconst X (a := 1) dX3_calibrate_185 (q := 186) rfl ?_
                refine j_iadd X dX3_calibrate_186 (q := 187) rfl ?_
                refine jp_8 X fp_X3_99 (ad := adn ad 2 nc a) hC6 dX3_calibrate_187 (q := 190) rfl (fun w7 hC7 hF7 => ?_)
                refine j_iload X dX3_calibrate_190 (q := 192) rfl 0 rfl ?_
                exact j_iret X rfl dX3_calibrate_192 (⟨⟨k1, ⟨b1, b2⟩, b3⟩, rfl, ⟨adn ad 2 nc a, hC7, rfl⟩, (((hF3.tr hF4).tr hF5).tr hF6).tr hF7⟩) (by decide) (by decide)
          · skip
            exact absurd c_71 (by omega)
      · skip
        exact j_throw X htab ts_42_90 dX3_calibrate_43 dX3_calibrate_46 dX3_calibrate_47 dX3_calibrate_49 dX3_calibrate_52 (by decide) (by decide) (by decide) (by decide) (⟨Or.inr (Or.inr ⟨k1, ⟨b1, b2⟩, by omega, rfl⟩), rfl⟩) (by decide) (by decide)
    · skip
      have b2 : ¬ (-99999 ≤ lf ∧ lf ≤ 99999) := fun z => c_18 (tf_f (by omega))
      exact j_throw X htab ts_31_84 dX3_calibrate_21 dX3_calibrate_24 dX3_calibrate_25 dX3_calibrate_27 dX3_calibrate_30 (by decide) (by decide) (by decide) (by decide) (⟨Or.inr (Or.inl ⟨k1, fun h => b2 h.2, rfl⟩), rfl⟩) (by decide) (by decide)
