/-- the first of k days from d on that is out; -1: none -/
def drF (o : Int → Int) : Nat → Int → Int
  | 0, _ => -1
  | k + 1, d => if o d = 1 then d else drF o k (d + 1)
theorem drF_of {o : Int → Int} {r : Int} : ∀ (k : Nat) (d : Int), d ≤ r → r < d + k → o r = 1 → (∀ t, d ≤ t → t < r → o t ≠ 1) → drF o k d = r
  | 0, d, h0, h1, _, _ => by omega
  | k + 1, d, h0, h1, h2, h3 => by
    rw [drF]
    by_cases c : o d = 1
    · rw [if_pos c]
      exact Classical.byContradiction fun z => h3 d (Int.le_refl d) (by omega) c
    · rw [if_neg c]
      have hne : d ≠ r := fun z => c (by rw [z]; exact h2)
      exact drF_of k (d + 1) (by omega) (by omega) h2 fun t a b => h3 t (by omega) b
theorem drF_no {o : Int → Int} : ∀ (k : Nat) (d : Int), (∀ t, d ≤ t → t < d + k → o t ≠ 1) → drF o k d = -1
  | 0, _, _ => rfl
  | k + 1, d, h => by
    rw [drF, if_neg (h d (Int.le_refl d) (by omega))]
    exact drF_no k (d + 1) fun t a b => h t (by omega) (by omega)
def oS (S : St) (u j : Int) : Int → Int := fun d => tf (S 11 u < iabs (errS S u j d))
def drS (S : St) (z : Int) : Int := if S 15 z < 0 then -1 else drF (oS S z (S 15 z)) 10000 0
theorem iabs_gt {T z : Int} : T < iabs z ↔ (T < z ∨ T < -z) := by
  unfold iabs
  split <;> omega
/-- once out, it stays out -/
theorem oS_mono {S : St} {u j a b : Int} (h0 : oS S u j 0 = 0) (ha : 0 ≤ a) (hab : a ≤ b) (h : oS S u j a = 1) : oS S u j b = 1 := by
  have g0 : ¬ S 11 u < iabs (errS S u j 0) := fun z => by rw [oS, tf_t z] at h0; cases h0
  have ga : S 11 u < iabs (errS S u j a) := Classical.byContradiction fun z => by rw [oS, tf_f z] at h; cases h
  refine tf_t ?_
  rw [iabs_gt] at *
  unfold errS at *
  by_cases hq : S 18 u ≤ 0
  · rw [if_pos hq] at *
    exact ga
  · rw [if_neg hq] at *
    have e0 : S 17 u * 0 / S 18 u = 0 := by rw [Int.mul_zero, Int.zero_ediv]
    rw [e0] at g0
    have hq' : 0 < S 18 u := by omega
    rcases Int.le_total 0 (S 17 u) with hp | hp
    · have h1 : S 17 u * a ≤ S 17 u * b := Int.mul_le_mul_of_nonneg_left hab hp
      have h2 := Int.ediv_le_ediv hq' h1
      have h3 : 0 ≤ S 17 u * a / S 18 u := Int.ediv_nonneg (Int.mul_nonneg hp ha) (by omega)
      omega
    · have h1 : S 17 u * b ≤ S 17 u * a := Int.mul_le_mul_of_nonpos_left hp hab
      have h2 := Int.ediv_le_ediv hq' h1
      have h4 : S 17 u * a ≤ 0 := by have := Int.mul_le_mul_of_nonpos_left hp ha; rwa [Int.mul_zero] at this
      have h3 := Int.ediv_le_ediv hq' h4
      rw [Int.zero_ediv] at h3
      omega
theorem not_nan_n64 {r : UInt64} (h : FP.Core.val64 r ≠ .nan) : vf_n64 r := by
  unfold vf_n64
  rw [UInt64.le_iff_toNat_le, UInt64.toNat_and]
  have h1 : ¬ FP.Core.infBits FP.Core.b64 < FP.Core.mag FP.Core.b64 r.toNat := fun z => h ((FP.Core.decode_nan _).mpr z)
  have e1 : FP.Core.infBits FP.Core.b64 = 9218868437227405312 := by decide +kernel
  have e2 : FP.Core.half FP.Core.b64 = 2 ^ 63 := by decide +kernel
  unfold FP.Core.mag at h1
  rw [e1, e2] at h1
  have e3 : (0x7fffffffffffffff : UInt64).toNat = 2 ^ 63 - 1 := rfl
  have e4 : (0x7ff0000000000000 : UInt64).toNat = 9218868437227405312 := rfl
  rw [e3, e4, Nat.and_two_pow_sub_one_eq_mod]
  omega
theorem whole_fin {i : Int} {d : FP.Core.Datum} (h : FP.Core.Whole i d) : ∃ s c q, d = .fin s c q ∧ (i ≠ 0 → c ≠ 0) := by
  cases d with
  | nan => exact h.elim
  | inf s => exact h.elim
  | fin s c q =>
    refine ⟨s, c, q, rfl, fun hi hc => hi ?_⟩
    subst hc
    have h1 : FP.Core.signed s (0 * 2 ^ q.toNat) = i * ((2 ^ (-q).toNat : Nat) : Int) := h
    rw [Nat.zero_mul] at h1
    have h2 : FP.Core.signed s 0 = 0 := by cases s <;> rfl
    rw [h2] at h1
    have h3 : (0 : Int) < ((2 ^ (-q).toNat : Nat) : Int) := by exact_mod_cast Nat.two_pow_pos _
    rcases Int.mul_eq_zero.mp h1.symm with h4 | h4
    · exact h4
    · omega
theorem ratio_nan (f : FP.Core.Fmt) (s : Bool) (a b : Nat) (e : Int) : FP.Core.roundRatio f s a b e ≠ .nan := by
  unfold FP.Core.roundRatio
  split
  · exact fun z => by cases z
  · unfold FP.Core.roundAt FP.Core.settle
    split <;> (unfold FP.Core.bound; split <;> exact fun z => by cases z)
theorem slope_n64 {P Q : Int} (hP : -900000000000 ≤ P ∧ P ≤ 900000000000) (hQ : 1 ≤ Q ∧ Q ≤ 2200000000000) : vf_n64 (FP.ddiv (FP.l2d (iL P)) (FP.l2d (iL Q))) := by
  refine not_nan_n64 ?_
  have h1 := FP.Core.l2d_int (a := iL P) (by rw [iL_T (by omega)]; omega)
  have h2 := FP.Core.l2d_int (a := iL Q) (by rw [iL_T (by omega)]; omega)
  rw [iL_T (by omega)] at h1 h2
  obtain ⟨s, c, q, e1, -⟩ := whole_fin h1
  obtain ⟨t, d, r, e2, hd⟩ := whole_fin h2
  show FP.Core.val64 (FP.Core.ddiv (FP.Core.l2d (iL P)) (FP.Core.l2d (iL Q))) ≠ .nan
  rw [FP.Core.val64_ddiv, e1, e2]
  show (if d = 0 then _ else FP.Core.roundRatio _ _ _ _ _) ≠ _
  rw [if_neg (hd (by omega))]
  exact ratio_nan _ _ _ _ _
def slP (P Q : Int) : UInt64 := if Q ≤ 0 then FP.dconst0 else FP.ddiv (FP.l2d (iL P)) (FP.l2d (iL Q))
section JR9
variable {p : Program} {l : Launch} {e : Env} {R : Room} {s : State} {m : MethodId} {args : Array Value} {below : List Frame} {meth : Method} {c : Code} {Q : State → Prop} {D : va_G} {ca : Nat → ClassId} {base nL k n pc q : Nat} {lv lv' : List (Nat × Value)} {st : List Value} {w : Wd} {y : MethodName} {cc : ByteArray} {ret : Option FieldType}
theorem j_dconst0 (X : Cx p l s m args meth c y cc nL ret D ca base) (d : decode cc pc = .ok (.dconst 0, 1)) (hq : pc + 1 = q) (kk : J p l e R s m args below meth c Q D base nL k n q lv (.double FP.dconst0 :: st) w) : J p l e R s m args below meth c Q D base nL k n pc lv st w := by
  subst hq
  exact fun ls H locs hl hP hS => lv_dconst0 X.1 X.2.1 d (kk ls H locs hl hP hS)
end JR9
set_option maxRecDepth 100000 in
set_option maxHeartbeats 4000000 in
theorem c_X3_driftsOut {l : Launch} (hlt : l.stackTraces = false) {D : va_G} {ca : Nat → ClassId} {base : Nat} {ad : Nat → Int → Nat} {n nc nm : Int} {S : St} {w : Wd} (hC : CW base ca ad n nc nm S w) (hI : IC n nc nm S) (z : Int) (hz : -2147483648 ≤ z ∧ z ≤ 2147483647) : CT l D ca base yX3_driftsOut cX3_driftsOut 6 (some .int) 3 1 6 [.ref (ad 0 0), .int (iI (z))] w (fun v w' => (0 ≤ z ∧ z < n) ∧ v = some (.int (iI (drS S z))) ∧ w = w') (fun E w' => ¬ (0 ≤ z ∧ z < n) ∧ E = nIO ∧ w = w') := by
  obtain ⟨hn, hnc, hnm, e3, e4, e5, h6, h7, h8⟩ := hI.top
  refine CT.mk hlt (by decide +kernel) (by first | exact Nat.le_of_ble_eq_true rfl | simp [lg_sl, cat_rf, cat_i, cat_l, cat_r]) ?_
  intro p e s m args below meth c X htab
  rw [show lv_args 0 [.ref (ad 0 0), .int (iI (z))] = [(0, .ref (ad 0 0)), (1, .int (iI (z)))] from by first | rfl | simp [lv_args, cat_rf, cat_i, cat_l, cat_r]]
  refine j_aload_n X dX3_driftsOut_0 (q := 1) rfl 0 rfl ?_
  refine j_iload_n X dX3_driftsOut_1 (q := 2) rfl 1 rfl ?_
  refine j_callV X (As := [.int (iI (z))]) (st := []) hC.cal rfl (c_X3_known hlt hC hI z hz) sv_X3_54 (by decide) rfl (by first | decide | exact Nat.le_of_ble_eq_true rfl | simp [cat_rf, cat_i, cat_l, cat_r]) dX3_driftsOut_2 (by decide) (fun E w' h => jx_out X htab h (by decide) (by decide)) ?_
  rintro v9 w9 ⟨k1, rfl, rfl⟩
  refine j_st (st := [va_rf (pt (ad 1) (z))]) ?_
  obtain ⟨f_1_0, f_1_1, f_1_2, f_1_3, f_1_4, f_1_5, f_1_6, f_1_7, f_1_8⟩ := hI.ins k1.1 k1.2
  refine j_astoreq_n X (i := 2) dX3_driftsOut_5 rfl (by decide) (q := 6) rfl (lv' := [(2, va_rf (pt (ad 1) (z))), (0, .ref (ad 0 0)), (1, .int (iI (z)))]) (by first | rfl | simp [cat_rf, cat_i, cat_l, cat_r]) ?_
  refine j_aloadq_n X dX3_driftsOut_6 (q := 7) rfl 0 rfl ?_
  refine j_getp X (v := va_rf (pt (ad 2) (S 15 z))) fl_X3_95 k1.1 (hC.ins k1.1 k1.2) rfl dX3_driftsOut_7 (q := 10) rfl ?_
  refine j_astoreq_n X (i := 3) dX3_driftsOut_10 rfl (by decide) (q := 11) rfl (lv' := [(3, va_rf (pt (ad 2) (S 15 z))), (2, va_rf (pt (ad 1) (z))), (0, .ref (ad 0 0)), (1, .int (iI (z)))]) (by first | rfl | simp [cat_rf, cat_i, cat_l, cat_r]) ?_
  refine j_aloadq_n X dX3_driftsOut_11 (q := 12) rfl 0 rfl ?_
  refine j_ifnonnullp X (tgt := 17) dX3_driftsOut_12 (by decide) (q := 15) rfl (fun c_12 => ?_) (fun c_12 => ?_)
  · skip
    obtain ⟨f_2_0, f_2_1, f_2_2, f_2_3, f_2_4, f_2_5, f_2_6, f_2_7, f_2_8, f_2_9⟩ := hI.kal c_12 (by omega)
    refine j_aloadq_n X dX3_driftsOut_17 (q := 18) rfl 1 rfl ?_
    refine j_aloadq_n X dX3_driftsOut_18 (q := 19) rfl 0 rfl ?_
    refine j_iconst X (a := 0) dX3_driftsOut_19 (q := 20) rfl ?_
    refine j_callS X (As := [va_rf (pt (ad 1) (z)), va_rf (pt (ad 2) (S 15 z)), .int (iI (0))]) (st := [])  (c_X3_isOutAfter hlt hC hI z (S 15 z) 0 k1 ⟨c_12, by omega⟩ (by decide)) ss_X3_199 (by decide) rfl (by first | decide | exact Nat.le_of_ble_eq_true rfl | simp [cat_rf, cat_i, cat_l, cat_r]) dX3_driftsOut_20 (by decide) (fun _ _ h => h.elim) ?_
    rintro v9 w9 ⟨rfl, rfl⟩
    refine j_st (st := [.int (iI (oS S z (S 15 z) 0))]) ?_
    have hb9 : 0 ≤ oS S z (S 15 z) 0 ∧ oS S z (S 15 z) 0 ≤ 1 := tf_b _
    refine j_if_eq X (tgt := 28) dX3_driftsOut_23 (by decide) (q := 26) rfl (by omega) (fun c_23 => ?_) (fun c_23 => ?_)
    · skip
      have hz0 : oS S z (S 15 z) 0 = 0 := by omega
      refine j_iconst X (a := 0) dX3_driftsOut_28 (q := 29) rfl ?_
      refine j_istore X (i := 4) dX3_driftsOut_29 (by decide) (q := 31) rfl (lv' := [(4, .int (iI (0))), (3, va_rf (pt (ad 2) (S 15 z))), (2, va_rf (pt (ad 1) (z))), (0, .ref (ad 0 0)), (1, .int (iI (z)))]) (by first | rfl | simp [cat_rf, cat_i, cat_l, cat_r]) ?_
      refine j_sipush X (a := 8192) (by decide +kernel) dX3_driftsOut_31 (q := 34) rfl ?_
      refine j_istore X (i := 5) dX3_driftsOut_34 (by decide) (q := 36) rfl (lv' := [(5, .int (iI (8192))), (4, .int (iI (0))), (3, va_rf (pt (ad 2) (S 15 z))), (2, va_rf (pt (ad 1) (z))), (0, .ref (ad 0 0)), (1, .int (iI (z)))]) (by first | rfl | simp [cat_rf, cat_i, cat_l, cat_r]) ?_
      have loop : ∀ (kk : Nat) (b : Int), kk ≤ 14 → (0 ≤ b ∧ b ≤ 9999) → oS S z (S 15 z) b = 0 → (9999 < b + ((2 ^ kk : Nat) : Int) ∨ oS S z (S 15 z) (b + ((2 ^ kk : Nat) : Int)) = 1) → J p l e (Rm 3 1 6) s m args below meth c (vx_MQ below (Qn D base (fun v w' => (0 ≤ z ∧ z < n) ∧ v = some (.int (iI (drS S z))) ∧ w = w')) (Xn D base (fun E w' => ¬ (0 ≤ z ∧ z < n) ∧ E = nIO ∧ w = w')) args s 1 6 (fun q => base ≤ q)) D base 6 1 6 36 [(2, va_rf (pt (ad 1) (z))), (3, va_rf (pt (ad 2) (S 15 z))), (4, .int (iI (b))), (5, .int (iI (((2 ^ kk / 2 : Nat) : Int))))] [] w := by
        intro kk
        induction kk with
        | zero =>
          intro b hk hb h1 h2
          have e0 : ((2 ^ 0 / 2 : Nat) : Int) = 0 := rfl
          have e1 : ((2 ^ 0 : Nat) : Int) = 1 := rfl
          rw [e1] at h2
          rw [e0]
          have hlow : ∀ t, 0 ≤ t → t ≤ b → oS S z (S 15 z) t ≠ 1 := fun t a0 a1 z1 => by have := oS_mono hz0 a0 a1 z1; omega
          refine j_iload X dX3_driftsOut_36 (q := 38) rfl 3 rfl ?_
          refine j_if_le X (tgt := 81) dX3_driftsOut_38 (by decide) (q := 41) rfl (by omega) (fun c_38 => ?_) (fun c_38 => ?_)
          · skip
            refine j_iload X dX3_driftsOut_81 (q := 83) rfl 2 rfl ?_
            refine j_sipush X (a := 9999) (by decide +kernel) dX3_driftsOut_83 (q := 86) rfl ?_
            refine j_icmp_ne X (tgt := 93) dX3_driftsOut_86 (by decide) (q := 89) rfl (by omega) (by omega) (fun c_86 => ?_) (fun c_86 => ?_)
            · skip
              refine j_iload X dX3_driftsOut_93 (q := 95) rfl 2 rfl ?_
              refine j_iconst X (a := 1) dX3_driftsOut_95 (q := 96) rfl ?_
              refine j_iadd X dX3_driftsOut_96 (q := 97) rfl ?_
              exact j_iret X rfl dX3_driftsOut_97 (⟨k1, by rw [drS, if_neg (by omega), drF_of 10000 0 (r := b + 1) (by omega) (by omega) (by omega) (fun t a0 a1 => hlow t a0 (by omega))], rfl⟩) (by decide) (by decide)
            · skip
              refine j_iconst X (a := -1) dX3_driftsOut_89 (q := 90) rfl ?_
              refine j_goto X (tgt := 97) dX3_driftsOut_90 (by decide) ?_
              exact j_iret X rfl dX3_driftsOut_97 (⟨k1, by rw [drS, if_neg (by omega), drF_no 10000 0 (fun t a0 a1 => hlow t a0 (by omega))], rfl⟩) (by decide) (by decide)
          · skip
            exact absurd c_38 (by decide)
        | succ kk ih =>
          intro b hk hb h1 h2
          obtain ⟨q1, q2⟩ := p2_b (show kk ≤ 13 by omega)
          have e1 : ((2 ^ (kk + 1) : Nat) : Int) = ((2 ^ kk : Nat) : Int) + ((2 ^ kk : Nat) : Int) := by rw [Nat.pow_succ]; omega
          rw [e1] at h2
          rw [p2_half]
          have et : Int.tdiv ((2 ^ kk : Nat) : Int) 2 = ((2 ^ kk / 2 : Nat) : Int) := rfl
          generalize hp : ((2 ^ kk : Nat) : Int) = p9 at *
          have q1b : 1 ≤ p9 ∧ p9 ≤ 8192 := by omega
          refine j_iload X dX3_driftsOut_36 (q := 38) rfl 3 rfl ?_
          refine j_if_le X (tgt := 81) dX3_driftsOut_38 (by decide) (q := 41) rfl (by omega) (fun c_38 => ?_) (fun c_38 => ?_)
          · skip
            exact absurd c_38 (by omega)
          · skip
            refine j_iload X dX3_driftsOut_41 (q := 43) rfl 2 rfl ?_
            refine j_iload X dX3_driftsOut_43 (q := 45) rfl 3 rfl ?_
            refine j_iadd X dX3_driftsOut_45 (q := 46) rfl ?_
            refine j_sipush X (a := 9999) (by decide +kernel) dX3_driftsOut_46 (q := 49) rfl ?_
            refine j_icmp_gt X (tgt := 72) dX3_driftsOut_49 (by decide) (q := 52) rfl (by omega) (by omega) (fun c_49 => ?_) (fun c_49 => ?_)
            · skip
              refine j_iload X dX3_driftsOut_72 (q := 74) rfl 3 rfl ?_
              refine j_iconst X (a := 2) dX3_driftsOut_74 (q := 75) rfl ?_
              refine j_idiv X (by omega) (by omega) dX3_driftsOut_75 (q := 76) rfl ?_
              refine j_istore X (i := 5) dX3_driftsOut_76 (by decide) (q := 78) rfl (lv' := [(5, .int (iI (Int.tdiv (p9) (2)))), (2, va_rf (pt (ad 1) (z))), (3, va_rf (pt (ad 2) (S 15 z))), (4, .int (iI (b)))]) (by first | rfl | simp [cat_rf, cat_i, cat_l, cat_r]) ?_
              refine j_goto X (tgt := 36) dX3_driftsOut_78 (by decide) ?_
              rw [et]
              exact j_lv (ih b (by omega) hb h1 (Or.inl (by omega))) [1, 2, 3, 0] rfl
            · skip
              refine j_aloadq_n X dX3_driftsOut_52 (q := 53) rfl 0 rfl ?_
              refine j_aloadq_n X dX3_driftsOut_53 (q := 54) rfl 1 rfl ?_
              refine j_iload X dX3_driftsOut_54 (q := 56) rfl 2 rfl ?_
              refine j_iload X dX3_driftsOut_56 (q := 58) rfl 3 rfl ?_
              refine j_iadd X dX3_driftsOut_58 (q := 59) rfl ?_
              refine j_callS X (As := [va_rf (pt (ad 1) (z)), va_rf (pt (ad 2) (S 15 z)), .int (iI (b + p9))]) (st := [])  (c_X3_isOutAfter hlt hC hI z (S 15 z) (b + p9) k1 ⟨c_12, by omega⟩ (by omega)) ss_X3_199 (by decide) rfl (by first | decide | exact Nat.le_of_ble_eq_true rfl | simp [cat_rf, cat_i, cat_l, cat_r]) dX3_driftsOut_59 (by decide) (fun _ _ h => h.elim) ?_
              rintro v9 w9 ⟨rfl, rfl⟩
              refine j_st (st := [.int (iI (oS S z (S 15 z) (b + p9)))]) ?_
              have hb9 : 0 ≤ oS S z (S 15 z) (b + p9) ∧ oS S z (S 15 z) (b + p9) ≤ 1 := tf_b _
              refine j_if_ne X (tgt := 72) dX3_driftsOut_62 (by decide) (q := 65) rfl (by omega) (fun c_62 => ?_) (fun c_62 => ?_)
              · skip
                refine j_iload X dX3_driftsOut_72 (q := 74) rfl 3 rfl ?_
                refine j_iconst X (a := 2) dX3_driftsOut_74 (q := 75) rfl ?_
                refine j_idiv X (by omega) (by omega) dX3_driftsOut_75 (q := 76) rfl ?_
                refine j_istore X (i := 5) dX3_driftsOut_76 (by decide) (q := 78) rfl (lv' := [(5, .int (iI (Int.tdiv (p9) (2)))), (2, va_rf (pt (ad 1) (z))), (3, va_rf (pt (ad 2) (S 15 z))), (4, .int (iI (b)))]) (by first | rfl | simp [cat_rf, cat_i, cat_l, cat_r]) ?_
                refine j_goto X (tgt := 36) dX3_driftsOut_78 (by decide) ?_
                rw [et]
                exact j_lv (ih b (by omega) hb h1 (Or.inr (by omega))) [1, 2, 3, 0] rfl
              · skip
                refine j_iload X dX3_driftsOut_65 (q := 67) rfl 2 rfl ?_
                refine j_iload X dX3_driftsOut_67 (q := 69) rfl 3 rfl ?_
                refine j_iadd X dX3_driftsOut_69 (q := 70) rfl ?_
                refine j_istore X (i := 4) dX3_driftsOut_70 (by decide) (q := 72) rfl (lv' := [(4, .int (iI (b + p9))), (2, va_rf (pt (ad 1) (z))), (3, va_rf (pt (ad 2) (S 15 z))), (5, .int (iI (p9)))]) (by first | rfl | simp [cat_rf, cat_i, cat_l, cat_r]) ?_
                refine j_iload X dX3_driftsOut_72 (q := 74) rfl 3 rfl ?_
                refine j_iconst X (a := 2) dX3_driftsOut_74 (q := 75) rfl ?_
                refine j_idiv X (by omega) (by omega) dX3_driftsOut_75 (q := 76) rfl ?_
                refine j_istore X (i := 5) dX3_driftsOut_76 (by decide) (q := 78) rfl (lv' := [(5, .int (iI (Int.tdiv (p9) (2)))), (4, .int (iI (b + p9))), (2, va_rf (pt (ad 1) (z))), (3, va_rf (pt (ad 2) (S 15 z)))]) (by first | rfl | simp [cat_rf, cat_i, cat_l, cat_r]) ?_
                refine j_goto X (tgt := 36) dX3_driftsOut_78 (by decide) ?_
                rw [et]
                exact j_lv (ih (b + p9) (by omega) (by omega) (by omega) (by rw [show b + p9 + p9 = b + (p9 + p9) by omega]; exact h2)) [2, 3, 1, 0] rfl
      exact j_lv (loop 14 0 (by decide) (by decide) hz0 (Or.inl (by decide))) [3, 2, 1, 0] rfl
    · skip
      refine j_iconst X (a := 0) dX3_driftsOut_26 (q := 27) rfl ?_
      exact j_iret X rfl dX3_driftsOut_27 (⟨k1, by rw [drS, if_neg (by omega), drF_of 10000 0 (Int.le_refl 0) (by decide) (by omega) (fun t a b => by omega)], rfl⟩) (by decide) (by decide)
  · skip
    refine j_iconst X (a := -1) dX3_driftsOut_15 (q := 16) rfl ?_
    exact j_iret X rfl dX3_driftsOut_16 (⟨k1, by rw [drS, if_pos c_12], rfl⟩) (by decide) (by decide)

set_option maxRecDepth 100000 in
set_option maxHeartbeats 4000000 in
theorem c_X3_slope {l : Launch} (hlt : l.stackTraces = false) {D : va_G} {ca : Nat → ClassId} {base : Nat} {ad : Nat → Int → Nat} {n nc nm : Int} {S : St} {w : Wd} (hC : CW base ca ad n nc nm S w) (hI : IC n nc nm S) (z : Int) (hz : -2147483648 ≤ z ∧ z ≤ 2147483647) : CT l D ca base yX3_slope cX3_slope 3 (some .double) 2 1 6 [.ref (ad 0 0), .int (iI (z))] w (fun v w' => (0 ≤ z ∧ z < n) ∧ v = some (.double (slP (S 17 z) (S 18 z))) ∧ w = w') (fun E w' => ¬ (0 ≤ z ∧ z < n) ∧ E = nIO ∧ w = w') := by
  obtain ⟨hn, hnc, hnm, e3, e4, e5, h6, h7, h8⟩ := hI.top
  refine CT.mk hlt (by decide +kernel) (by first | exact Nat.le_of_ble_eq_true rfl | simp [lg_sl, cat_rf, cat_i, cat_l, cat_r]) ?_
  intro p e s m args below meth c X htab
  rw [show lv_args 0 [.ref (ad 0 0), .int (iI (z))] = [(0, .ref (ad 0 0)), (1, .int (iI (z)))] from by first | rfl | simp [lv_args, cat_rf, cat_i, cat_l, cat_r]]
  refine j_aload_n X dX3_slope_0 (q := 1) rfl 0 rfl ?_
  refine j_iload_n X dX3_slope_1 (q := 2) rfl 1 rfl ?_
  refine j_callV X (As := [.int (iI (z))]) (st := []) hC.cal rfl (c_X3_known hlt hC hI z hz) sv_X3_54 (by decide) rfl (by first | decide | exact Nat.le_of_ble_eq_true rfl | simp [cat_rf, cat_i, cat_l, cat_r]) dX3_slope_2 (by decide) (fun E w' h => jx_out X htab h (by decide) (by decide)) ?_
  rintro v9 w9 ⟨k1, rfl, rfl⟩
  refine j_st (st := [va_rf (pt (ad 1) (z))]) ?_
  obtain ⟨f_3_0, f_3_1, f_3_2, f_3_3, f_3_4, f_3_5, f_3_6, f_3_7, f_3_8⟩ := hI.ins k1.1 k1.2
  refine j_astoreq_n X (i := 2) dX3_slope_5 rfl (by decide) (q := 6) rfl (lv' := [(2, va_rf (pt (ad 1) (z))), (0, .ref (ad 0 0)), (1, .int (iI (z)))]) (by first | rfl | simp [cat_rf, cat_i, cat_l, cat_r]) ?_
  refine j_aloadq_n X dX3_slope_6 (q := 7) rfl 0 rfl ?_
  refine j_getp X (v := .long (iL (S 18 z))) fl_X3_176 k1.1 (hC.ins k1.1 k1.2) rfl dX3_slope_7 (q := 10) rfl ?_
  refine j_lconst X (a := 0) (by decide +kernel) dX3_slope_10 (q := 11) rfl ?_
  refine j_lcmp X (by omega) (by omega) dX3_slope_11 (q := 12) rfl ?_
  refine j_if_gt X (tgt := 17) dX3_slope_12 (by decide) (q := 15) rfl (cmpI_r _ _) (fun c_12 => ?_) (fun c_12 => ?_)
  · skip
    refine j_aloadq_n X dX3_slope_17 (q := 18) rfl 0 rfl ?_
    refine j_getp X (v := .long (iL (S 17 z))) fl_X3_172 k1.1 (hC.ins k1.1 k1.2) rfl dX3_slope_18 (q := 21) rfl ?_
    refine j_l2d X dX3_slope_21 (q := 22) rfl ?_
    refine j_aloadq_n X dX3_slope_22 (q := 23) rfl 0 rfl ?_
    refine j_getp X (v := .long (iL (S 18 z))) fl_X3_176 k1.1 (hC.ins k1.1 k1.2) rfl dX3_slope_23 (q := 26) rfl ?_
    refine j_l2d X dX3_slope_26 (q := 27) rfl ?_
    have c_12b := cmpI_gt.mp c_12
    refine j_ddiv X (slope_n64 (by omega) (by omega)) dX3_slope_27 (q := 28) rfl ?_
    exact j_dret X rfl dX3_slope_28 (⟨k1, by rw [slP, if_neg (by omega)], rfl⟩) (by decide) (by decide)
  · skip
    refine j_dconst0 X dX3_slope_15 (q := 16) rfl ?_
    exact j_dret X rfl dX3_slope_16 (⟨k1, by rw [slP, if_pos (cmpI_le.mp c_12)], rfl⟩) (by decide) (by decide)
