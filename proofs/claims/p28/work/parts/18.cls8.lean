def niv (t s v : Int) : Int := if t < s then (if 1 < v.tdiv 2 then v.tdiv 2 else 1) else if 2 * s ≤ t then (if v + v.tdiv 4 < 999 then v + v.tdiv 4 else 999) else v
theorem niv_b {t s v : Int} (hv : 1 ≤ v ∧ v ≤ 999) : 1 ≤ niv t s v ∧ niv t s v ≤ 999 := by
  have e1 : v.tdiv 2 = v / 2 := Int.tdiv_eq_ediv_of_nonneg (by omega)
  have e2 : v.tdiv 4 = v / 4 := Int.tdiv_eq_ediv_of_nonneg (by omega)
  unfold niv
  rw [e1, e2]
  split
  · split <;> omega
  · split
    · split <;> omega
    · omega
/-- the sums over the kept points from the calibration a on, cnt kept already -/
def spP (S : St) : Nat → Int → Int → Int
  | 0, _, _ => 0
  | k + 1, cnt, a => if a < 0 ∨ 8 ≤ cnt then 0 else if S 28 a ≤ 0 then spP S k cnt (S 23 a) else S 28 a * S 29 a + spP S k (cnt + 1) (S 23 a)
def spQ (S : St) : Nat → Int → Int → Int
  | 0, _, _ => 0
  | k + 1, cnt, a => if a < 0 ∨ 8 ≤ cnt then 0 else if S 28 a ≤ 0 then spQ S k cnt (S 23 a) else S 28 a * S 28 a + spQ S k (cnt + 1) (S 23 a)
def spS (S : St) (z : Int) : St := up (up S 17 z (spP S 513 0 (S 15 z))) 18 z (spQ S 513 0 (S 15 z))
theorem sp_n {S : St} {k : Nat} {cnt a : Int} (h : a < 0 ∨ 8 ≤ cnt) : spP S k cnt a = 0 ∧ spQ S k cnt a = 0 := by
  cases k with
  | zero => exact ⟨rfl, rfl⟩
  | succ j => simp [spP, spQ, h]
theorem sp_p {S : St} {k : Nat} {cnt a : Int} (h : ¬ (a < 0 ∨ 8 ≤ cnt)) (hz : S 28 a ≤ 0) : spP S (k + 1) cnt a = spP S k cnt (S 23 a) ∧ spQ S (k + 1) cnt a = spQ S k cnt (S 23 a) := by
  rw [spP, spQ, if_neg h, if_neg h, if_pos hz, if_pos hz]
  exact ⟨rfl, rfl⟩
theorem sp_s {S : St} {k : Nat} {cnt a : Int} (h : ¬ (a < 0 ∨ 8 ≤ cnt)) (hz : ¬ S 28 a ≤ 0) : spP S (k + 1) cnt a = S 28 a * S 29 a + spP S k (cnt + 1) (S 23 a) ∧ spQ S (k + 1) cnt a = S 28 a * S 28 a + spQ S k (cnt + 1) (S 23 a) := by
  rw [spP, spQ, if_neg h, if_neg h, if_neg hz, if_neg hz]
  exact ⟨rfl, rfl⟩
theorem st_ext {S T : St} {z P Q : Int} (hk : ∀ g j, (g ≠ 17 ∧ g ≠ 18) ∨ j ≠ z → T g j = S g j) (h1 : T 17 z = P) (h2 : T 18 z = Q) : T = up (up S 17 z P) 18 z Q := by
  funext g j
  unfold up
  by_cases e1 : g = 18
  · subst e1
    by_cases e2 : j = z
    · subst e2; simp [h2]
    · simp [e2, hk 18 j (Or.inr e2)]
  · by_cases e3 : g = 17
    · subst e3
      by_cases e2 : j = z
      · subst e2; simp [h1]
      · simp [e2, hk 17 j (Or.inr e2)]
    · simp [e1, e3, hk g j (Or.inl ⟨e3, e1⟩)]
def cb1 (S : St) (f : Int) : Nat → St
  | 0 => S
  | k + 1 => if stk (cb1 S f k) f k = 1 then up (cb1 S f k) 32 k 1 else cb1 S f k
def cbn (S : St) (f : Int) : Nat → Int
  | 0 => 0
  | k + 1 => cbn S f k + stk (cb1 S f k) f k
def cb2 (T : St) (f : Int) : Nat → St
  | 0 => T
  | k + 1 => if (k : Int) < cb2 T f k 3 0 ∧ 0 ≤ cb2 T f k 15 k ∧ rst (cb2 T f k) f (cb2 T f k 8 0) 513 (cb2 T f k 24 (cb2 T f k 15 k)) = 1 then up (cb2 T f k) 26 (cb2 T f k 15 k) 1 else cb2 T f k
def cbS (S : St) (nm f : Int) : St := cb2 (up (cb1 S f nm.toNat) 6 0 (cb1 S f nm.toNat 6 0 + cbn S f nm.toNat)) f 12
theorem cb1_s {S : St} {f i : Int} (h : 0 ≤ i) : cb1 S f (i + 1).toNat = (if stk (cb1 S f i.toNat) f i = 1 then up (cb1 S f i.toNat) 32 i 1 else cb1 S f i.toNat) ∧ cbn S f (i + 1).toNat = cbn S f i.toNat + stk (cb1 S f i.toNat) f i := by
  obtain ⟨k, rfl⟩ := Int.eq_ofNat_of_zero_le h
  exact ⟨rfl, rfl⟩
theorem cb2_s {T : St} {f i : Int} (h : 0 ≤ i) : cb2 T f (i + 1).toNat = if i < cb2 T f i.toNat 3 0 ∧ 0 ≤ cb2 T f i.toNat 15 i ∧ rst (cb2 T f i.toNat) f (cb2 T f i.toNat 8 0) 513 (cb2 T f i.toNat 24 (cb2 T f i.toNat 15 i)) = 1 then up (cb2 T f i.toNat) 26 (cb2 T f i.toNat 15 i) 1 else cb2 T f i.toNat := by
  obtain ⟨k, rfl⟩ := Int.eq_ofNat_of_zero_le h
  rfl
set_option maxRecDepth 100000 in
set_option maxHeartbeats 4000000 in
theorem c_X3_nextInterval {l : Launch} (hlt : l.stackTraces = false) {D : va_G} {ca : Nat → ClassId} {base : Nat} {ad : Nat → Int → Nat} {n nc nm : Int} {S : St} {w : Wd} (hC : CW base ca ad n nc nm S w) (hI : IC n nc nm S) (z x : Int) (hz : 0 ≤ z ∧ z < n) (hx : 0 ≤ x ∧ x ≤ 1000000) : CT l D ca base yX3_nextInterval cX3_nextInterval 2 (some .int) 1 0 0 [va_rf (pt (ad 1) (z)), .int (iI (x))] w (fun v w' => v = some (.int (iI (niv (S 11 z) x (S 13 z)))) ∧ w = w') (fun _ _ => False) := by
  obtain ⟨hn, hnc, hnm, e3, e4, e5, h6, h7, h8⟩ := hI.top
  refine CT.mk hlt (by decide +kernel) (by first | exact Nat.le_of_ble_eq_true rfl | simp [lg_sl, cat_rf, cat_i, cat_l, cat_r]) ?_
  intro p e s m args below meth c X htab
  rw [show lv_args 0 [va_rf (pt (ad 1) (z)), .int (iI (x))] = [(0, va_rf (pt (ad 1) (z))), (1, .int (iI (x)))] from by first | rfl | simp [lv_args, cat_rf, cat_i, cat_l, cat_r]]
  obtain ⟨f_1_0, f_1_1, f_1_2, f_1_3, f_1_4, f_1_5, f_1_6, f_1_7, f_1_8⟩ := hI.ins hz.1 hz.2
  have e1 : (S 13 z).tdiv 2 = S 13 z / 2 := Int.tdiv_eq_ediv_of_nonneg (by omega)
  have e2 : (S 13 z).tdiv 4 = S 13 z / 4 := Int.tdiv_eq_ediv_of_nonneg (by omega)
  refine j_iload_n X dX3_nextInterval_0 (q := 1) rfl 1 rfl ?_
  refine j_aloadq_n X dX3_nextInterval_1 (q := 2) rfl 0 rfl ?_
  refine j_getp X (v := .int (iI (S 11 z))) fl_X3_129 hz.1 (hC.ins hz.1 hz.2) rfl dX3_nextInterval_2 (q := 5) rfl ?_
  refine j_icmp_le X (tgt := 19) dX3_nextInterval_5 (by decide) (q := 8) rfl (by omega) (by omega) (fun c_5 => ?_) (fun c_5 => ?_)
  · skip
    refine j_iconst X (a := 2) dX3_nextInterval_19 (q := 20) rfl ?_
    refine j_iload_n X dX3_nextInterval_20 (q := 21) rfl 1 rfl ?_
    refine j_imul X dX3_nextInterval_21 (q := 22) rfl ?_
    refine j_aloadq_n X dX3_nextInterval_22 (q := 23) rfl 0 rfl ?_
    refine j_getp X (v := .int (iI (S 11 z))) fl_X3_129 hz.1 (hC.ins hz.1 hz.2) rfl dX3_nextInterval_23 (q := 26) rfl ?_
    refine j_icmp_gt X (tgt := 47) dX3_nextInterval_26 (by decide) (q := 29) rfl (by omega) (by omega) (fun c_26 => ?_) (fun c_26 => ?_)
    · skip
      refine j_aloadq_n X dX3_nextInterval_47 (q := 48) rfl 0 rfl ?_
      refine j_getp X (v := .int (iI (S 13 z))) fl_X3_146 hz.1 (hC.ins hz.1 hz.2) rfl dX3_nextInterval_48 (q := 51) rfl ?_
      exact j_iret X rfl dX3_nextInterval_51 (⟨by rw [niv, if_neg (show ¬ S 11 z < x by omega), if_neg (show ¬ 2 * x ≤ S 11 z by omega)], rfl⟩) (by decide) (by decide)
    · skip
      refine j_sipush X (a := 999) (by decide +kernel) dX3_nextInterval_29 (q := 32) rfl ?_
      refine j_aloadq_n X dX3_nextInterval_32 (q := 33) rfl 0 rfl ?_
      refine j_getp X (v := .int (iI (S 13 z))) fl_X3_146 hz.1 (hC.ins hz.1 hz.2) rfl dX3_nextInterval_33 (q := 36) rfl ?_
      refine j_aloadq_n X dX3_nextInterval_36 (q := 37) rfl 0 rfl ?_
      refine j_getp X (v := .int (iI (S 13 z))) fl_X3_146 hz.1 (hC.ins hz.1 hz.2) rfl dX3_nextInterval_37 (q := 40) rfl ?_
      refine j_iconst X (a := 4) dX3_nextInterval_40 (q := 41) rfl ?_
      refine j_idiv X (by omega) (by omega) dX3_nextInterval_41 (q := 42) rfl ?_
      refine j_iadd X dX3_nextInterval_42 (q := 43) rfl ?_
      refine j_callS X (As := [.int (iI (999)), .int (iI ((S 13 z) + (Int.tdiv (S 13 z) (4))))]) (st := [])  (c_J9_min_7cf53 hlt 999 (S 13 z + (S 13 z).tdiv 4) (by decide) (by omega)) ss_X3_169 (by decide) rfl (by first | decide | exact Nat.le_of_ble_eq_true rfl | simp [cat_rf, cat_i, cat_l, cat_r]) dX3_nextInterval_43 (by decide) (fun _ _ h => h.elim) ?_
      rintro v9 w9 ⟨rfl, rfl⟩
      refine j_st (st := [.int (iI (if S 13 z + (S 13 z).tdiv 4 < 999 then S 13 z + (S 13 z).tdiv 4 else 999))]) ?_
      exact j_iret X rfl dX3_nextInterval_46 (⟨by rw [niv, if_neg (show ¬ S 11 z < x by omega), if_pos c_26], rfl⟩) (by decide) (by decide)
  · skip
    refine j_iconst X (a := 1) dX3_nextInterval_8 (q := 9) rfl ?_
    refine j_aloadq_n X dX3_nextInterval_9 (q := 10) rfl 0 rfl ?_
    refine j_getp X (v := .int (iI (S 13 z))) fl_X3_146 hz.1 (hC.ins hz.1 hz.2) rfl dX3_nextInterval_10 (q := 13) rfl ?_
    refine j_iconst X (a := 2) dX3_nextInterval_13 (q := 14) rfl ?_
    refine j_idiv X (by omega) (by omega) dX3_nextInterval_14 (q := 15) rfl ?_
    refine j_callS X (As := [.int (iI (1)), .int (iI (Int.tdiv (S 13 z) (2)))]) (st := [])  (c_J9_max_7cf53 hlt 1 ((S 13 z).tdiv 2) (by decide) (by omega)) ss_X3_165 (by decide) rfl (by first | decide | exact Nat.le_of_ble_eq_true rfl | simp [cat_rf, cat_i, cat_l, cat_r]) dX3_nextInterval_15 (by decide) (fun _ _ h => h.elim) ?_
    rintro v9 w9 ⟨rfl, rfl⟩
    refine j_st (st := [.int (iI (if 1 < (S 13 z).tdiv 2 then (S 13 z).tdiv 2 else 1))]) ?_
    exact j_iret X rfl dX3_nextInterval_18 (⟨by rw [niv, if_pos c_5], rfl⟩) (by decide) (by decide)

set_option maxRecDepth 100000 in
set_option maxHeartbeats 4000000 in
theorem c_X3_sumPoints {l : Launch} (hlt : l.stackTraces = false) {D : va_G} {ca : Nat → ClassId} {base : Nat} {ad : Nat → Int → Nat} {n nc nm : Int} {S : St} {w : Wd} (hC : CW base ca ad n nc nm S w) (hI : IC n nc nm S) (z : Int) (hz : 0 ≤ z ∧ z < n) : CT l D ca base yX3_sumPoints cX3_sumPoints 3 none 0 0 0 [va_rf (pt (ad 1) (z))] w (fun v w' => v = none ∧ CW base ca ad n nc nm (spS S z) w' ∧ Fr 0 w w') (fun _ _ => False) := by
  obtain ⟨hn, hnc, hnm, e3, e4, e5, h6, h7, h8⟩ := hI.top
  refine CT.mk hlt (by decide +kernel) (by first | exact Nat.le_of_ble_eq_true rfl | simp [lg_sl, cat_rf, cat_i, cat_l, cat_r]) ?_
  intro p e s m args below meth c X htab
  rw [show lv_args 0 [va_rf (pt (ad 1) (z))] = [(0, va_rf (pt (ad 1) (z)))] from by first | rfl | simp [lv_args, cat_rf, cat_i, cat_l, cat_r]]
  obtain ⟨f_2_0, f_2_1, f_2_2, f_2_3, f_2_4, f_2_5, f_2_6, f_2_7, f_2_8⟩ := hI.ins hz.1 hz.2
  refine j_aloadq_n X dX3_sumPoints_0 (q := 1) rfl 0 rfl ?_
  refine j_lconst X (a := 0) (by decide +kernel) dX3_sumPoints_1 (q := 2) rfl ?_
  refine jp_17 X fp_X3_172 hC hz.1 hz.2 dX3_sumPoints_2 (q := 5) rfl (fun w1 hC1 hF1 => ?_)
  refine j_aloadq_n X dX3_sumPoints_5 (q := 6) rfl 0 rfl ?_
  refine j_lconst X (a := 0) (by decide +kernel) dX3_sumPoints_6 (q := 7) rfl ?_
  refine jp_18 X fp_X3_176 hC1 hz.1 hz.2 dX3_sumPoints_7 (q := 10) rfl (fun w2 hC2 hF2 => ?_)
  refine j_iconst X (a := 0) dX3_sumPoints_10 (q := 11) rfl ?_
  refine j_istore_n X (i := 1) dX3_sumPoints_11 rfl (by decide) (q := 12) rfl (lv' := [(1, .int (iI (0))), (0, va_rf (pt (ad 1) (z)))]) (by first | rfl | simp [cat_rf, cat_i, cat_l, cat_r]) ?_
  refine j_aloadq_n X dX3_sumPoints_12 (q := 13) rfl 1 rfl ?_
  refine j_getp X (v := va_rf (pt (ad 2) (S 15 z))) fl_X3_95 hz.1 (hC2.ins hz.1 hz.2) rfl dX3_sumPoints_13 (q := 16) rfl ?_
  refine j_astoreq_n X (i := 2) dX3_sumPoints_16 rfl (by decide) (q := 17) rfl (lv' := [(2, va_rf (pt (ad 2) (S 15 z))), (1, .int (iI (0))), (0, va_rf (pt (ad 1) (z)))]) (by first | rfl | simp [cat_rf, cat_i, cat_l, cat_r]) ?_
  have loop17 : ∀ (kk : Nat) (SL : St) (wL : Wd) (a cnt : Int), (-1 ≤ a ∧ a < nc) → a + 1 ≤ kk → (0 ≤ cnt ∧ cnt ≤ 8) → (∀ g j, (g ≠ 17 ∧ g ≠ 18) ∨ j ≠ z → SL g j = S g j) → spP S 513 0 (S 15 z) = SL 17 z + spP S kk cnt a → spQ S 513 0 (S 15 z) = SL 18 z + spQ S kk cnt a → CW base ca ad n nc nm SL wL → Fr 0 w wL → J p l e (Rm 0 0 0) s m args below meth c (vx_MQ below (Qn D base (fun v w' => v = none ∧ CW base ca ad n nc nm (spS S z) w' ∧ Fr 0 w w')) (Xn D base (fun _ _ => False)) args s 0 0 (fun q => base ≤ q)) D base 3 0 0 17 [(0, va_rf (pt (ad 1) (z))), (1, .int (iI (cnt))), (2, va_rf (pt (ad 2) (a)))] [] wL := by
    intro kk
    induction kk using Nat.strongRecOn with
    | ind kk ih =>
      intro SL wL a cnt ha hka hct hk hP hQ hCL hFL
      refine j_aloadq_n X dX3_sumPoints_17 (q := 18) rfl 2 rfl ?_
      refine j_ifnullp X (tgt := 85) dX3_sumPoints_18 (by decide) (q := 21) rfl (fun c_18 => ?_) (fun c_18 => ?_)
      · skip
        exact j_vret X rfl dX3_sumPoints_85 (⟨rfl, by rw [spS, show spP S 513 0 (S 15 z) = SL 17 z by have := (sp_n (S := S) (k := kk) (cnt := cnt) (a := a) (by omega)).1; omega, show spQ S 513 0 (S 15 z) = SL 18 z by have := (sp_n (S := S) (k := kk) (cnt := cnt) (a := a) (by omega)).2; omega, ← st_ext hk rfl rfl]; exact hCL, hFL⟩) (by decide) (by decide)
      · skip
        obtain ⟨f_3_0, f_3_1, f_3_2, f_3_3, f_3_4, f_3_5, f_3_6, f_3_7, f_3_8, f_3_9⟩ := hI.kal c_18 ha.2
        obtain ⟨j9, rfl⟩ : ∃ j9, kk = j9 + 1 := ⟨kk - 1, by omega⟩
        have q28 : SL 28 a = S 28 a := hk 28 a (Or.inl (by decide))
        have q29 : SL 29 a = S 29 a := hk 29 a (Or.inl (by decide))
        have q23 : SL 23 a = S 23 a := hk 23 a (Or.inl (by decide))
        refine j_iload_n X dX3_sumPoints_21 (q := 22) rfl 1 rfl ?_
        refine j_bipush X (a := 8) (by decide +kernel) dX3_sumPoints_22 (q := 24) rfl ?_
        refine j_icmp_ge X (tgt := 85) dX3_sumPoints_24 (by decide) (q := 27) rfl (by omega) (by omega) (fun c_24 => ?_) (fun c_24 => ?_)
        · skip
          exact j_vret X rfl dX3_sumPoints_85 (⟨rfl, by rw [spS, show spP S 513 0 (S 15 z) = SL 17 z by have := (sp_n (S := S) (k := j9 + 1) (cnt := cnt) (a := a) (by omega)).1; omega, show spQ S 513 0 (S 15 z) = SL 18 z by have := (sp_n (S := S) (k := j9 + 1) (cnt := cnt) (a := a) (by omega)).2; omega, ← st_ext hk rfl rfl]; exact hCL, hFL⟩) (by decide) (by decide)
        · skip
          have hng : ¬ (a < 0 ∨ 8 ≤ cnt) := by omega
          refine j_aloadq_n X dX3_sumPoints_27 (q := 28) rfl 2 rfl ?_
          refine j_getp X (v := .int (iI (SL 28 a))) fl_X3_152 c_18 (hCL.kal c_18 ha.2) rfl dX3_sumPoints_28 (q := 31) rfl ?_
          refine j_if_le X (tgt := 77) dX3_sumPoints_31 (by decide) (q := 34) rfl (by omega) (fun c_31 => ?_) (fun c_31 => ?_)
          · skip
            refine j_aloadq_n X dX3_sumPoints_77 (q := 78) rfl 2 rfl ?_
            refine j_getp X (v := va_rf (pt (ad 2) (SL 23 a))) fl_X3_179 c_18 (hCL.kal c_18 ha.2) rfl dX3_sumPoints_78 (q := 81) rfl ?_
            refine j_astoreq_n X (i := 2) dX3_sumPoints_81 rfl (by decide) (q := 82) rfl (lv' := [(2, va_rf (pt (ad 2) (SL 23 a))), (0, va_rf (pt (ad 1) (z))), (1, .int (iI (cnt)))]) (by first | rfl | simp [cat_rf, cat_i, cat_l, cat_r]) ?_
            refine j_goto X (tgt := 17) dX3_sumPoints_82 (by decide) ?_
            exact j_lv (ih j9 (by omega) SL wL (SL 23 a) cnt (by omega) (by omega) hct hk (by rw [hP, (sp_p hng (by omega)).1, q23]) (by rw [hQ, (sp_p hng (by omega)).2, q23]) hCL hFL) [1, 2, 0] rfl
          · skip
            refine j_iinc X dX3_sumPoints_34 1 rfl (by decide) (q := 37) rfl (lv' := [(1, .int (iI (cnt + 1))), (0, va_rf (pt (ad 1) (z))), (2, va_rf (pt (ad 2) (a)))]) (by first | rfl | simp [cat_rf, cat_i, cat_l, cat_r]) ?_
            refine j_aloadq_n X dX3_sumPoints_37 (q := 38) rfl 1 rfl ?_
            refine j_dup X (by first | rfl | exact cat_rf _) dX3_sumPoints_38 (q := 39) rfl ?_
            refine j_getp X (v := .long (iL (SL 17 z))) fl_X3_172 hz.1 (hCL.ins hz.1 hz.2) rfl dX3_sumPoints_39 (q := 42) rfl ?_
            refine j_aloadq_n X dX3_sumPoints_42 (q := 43) rfl 2 rfl ?_
            refine j_getp X (v := .int (iI (SL 28 a))) fl_X3_152 c_18 (hCL.kal c_18 ha.2) rfl dX3_sumPoints_43 (q := 46) rfl ?_
            refine j_i2l X (by omega) dX3_sumPoints_46 (q := 47) rfl ?_
            refine j_aloadq_n X dX3_sumPoints_47 (q := 48) rfl 2 rfl ?_
            refine j_getp X (v := .int (iI (SL 29 a))) fl_X3_158 c_18 (hCL.kal c_18 ha.2) rfl dX3_sumPoints_48 (q := 51) rfl ?_
            refine j_i2l X (by omega) dX3_sumPoints_51 (q := 52) rfl ?_
            refine j_lmul X dX3_sumPoints_52 (q := 53) rfl ?_
            refine j_ladd X dX3_sumPoints_53 (q := 54) rfl ?_
            refine jp_17 X fp_X3_172 hCL hz.1 hz.2 dX3_sumPoints_54 (q := 57) rfl (fun w3 hC3 hF3 => ?_)
            refine j_aloadq_n X dX3_sumPoints_57 (q := 58) rfl 1 rfl ?_
            refine j_dup X (by first | rfl | exact cat_rf _) dX3_sumPoints_58 (q := 59) rfl ?_
            refine j_getp X (v := .long (iL (SL 18 z))) fl_X3_176 hz.1 (hC3.ins hz.1 hz.2) rfl dX3_sumPoints_59 (q := 62) rfl ?_
            refine j_aloadq_n X dX3_sumPoints_62 (q := 63) rfl 2 rfl ?_
            refine j_getp X (v := .int (iI (SL 28 a))) fl_X3_152 c_18 (hC3.kal c_18 ha.2) rfl dX3_sumPoints_63 (q := 66) rfl ?_
            refine j_i2l X (by omega) dX3_sumPoints_66 (q := 67) rfl ?_
            refine j_aloadq_n X dX3_sumPoints_67 (q := 68) rfl 2 rfl ?_
            refine j_getp X (v := .int (iI (SL 28 a))) fl_X3_152 c_18 (hC3.kal c_18 ha.2) rfl dX3_sumPoints_68 (q := 71) rfl ?_
            refine j_i2l X (by omega) dX3_sumPoints_71 (q := 72) rfl ?_
            refine j_lmul X dX3_sumPoints_72 (q := 73) rfl ?_
            refine j_ladd X dX3_sumPoints_73 (q := 74) rfl ?_
            refine jp_18 X fp_X3_176 hC3 hz.1 hz.2 dX3_sumPoints_74 (q := 77) rfl (fun w4 hC4 hF4 => ?_)
            refine j_aloadq_n X dX3_sumPoints_77 (q := 78) rfl 2 rfl ?_
            refine j_getp X (v := va_rf (pt (ad 2) (SL 23 a))) fl_X3_179 c_18 (hC4.kal c_18 ha.2) rfl dX3_sumPoints_78 (q := 81) rfl ?_
            refine j_astoreq_n X (i := 2) dX3_sumPoints_81 rfl (by decide) (q := 82) rfl (lv' := [(2, va_rf (pt (ad 2) (SL 23 a))), (1, .int (iI (cnt + 1))), (0, va_rf (pt (ad 1) (z)))]) (by first | rfl | simp [cat_rf, cat_i, cat_l, cat_r]) ?_
            refine j_goto X (tgt := 17) dX3_sumPoints_82 (by decide) ?_
            have hk4 : ∀ g j, (g ≠ 17 ∧ g ≠ 18) ∨ j ≠ z → up (up SL 17 z (SL 17 z + SL 28 a * SL 29 a)) 18 z (SL 18 z + SL 28 a * SL 28 a) g j = S g j := fun g j hg => by
              rcases hg with ⟨h1, h2⟩ | h1
              · rw [up_f h2, up_f h1]; exact hk g j (Or.inl ⟨h1, h2⟩)
              · rw [up_i h1, up_i h1]; exact hk g j (Or.inr h1)
            exact j_lv (ih j9 (by omega) _ w4 (SL 23 a) (cnt + 1) (by omega) (by omega) (by omega) hk4 (by rw [hP, (sp_s hng (by omega)).1, ← q28, ← q29, ← q23, up_f (by decide), up_s]; omega) (by rw [hQ, (sp_s hng (by omega)).2, ← q28, ← q23, up_s]; omega) hC4 ((hFL.tr hF3).tr hF4)) [2, 1, 0] rfl
  exact j_lv (loop17 513 _ w2 (S 15 z) 0 (by omega) (by omega) (by decide) (fun g j hg => hg.elim (fun h => by rw [up_f h.2, up_f h.1]) (fun h => by rw [up_i h, up_i h])) (by rw [up_f (by decide), up_s, Int.zero_add]) (by rw [up_s, Int.zero_add]) hC2 (hF1.tr hF2)) [2, 1, 0] rfl

set_option maxRecDepth 100000 in
set_option maxHeartbeats 4000000 in
theorem c_X3_callBack {l : Launch} (hlt : l.stackTraces = false) {D : va_G} {ca : Nat → ClassId} {base : Nat} {ad : Nat → Int → Nat} {n nc nm : Int} {S : St} {w : Wd} (hC : CW base ca ad n nc nm S w) (hI : IC n nc nm S) (f : Int) (hf : 0 ≤ f ∧ f < nc) : CT l D ca base yX3_callBack cX3_callBack 7 (some .int) 2 0 0 [.ref (ad 0 0), va_rf (pt (ad 2) (f))] w (fun v w' => v = some (.int (iI (cbn S f nm.toNat))) ∧ (CW base ca ad n nc nm (cbS S nm f) w' ∧ IC n nc nm (cbS S nm f)) ∧ Fr 0 w w') (fun _ _ => False) := by
  obtain ⟨hn, hnc, hnm, e3, e4, e5, h6, h7, h8⟩ := hI.top
  refine CT.mk hlt (by decide +kernel) (by first | exact Nat.le_of_ble_eq_true rfl | simp [lg_sl, cat_rf, cat_i, cat_l, cat_r]) ?_
  intro p e s m args below meth c X htab
  rw [show lv_args 0 [.ref (ad 0 0), va_rf (pt (ad 2) (f))] = [(0, .ref (ad 0 0)), (1, va_rf (pt (ad 2) (f)))] from by first | rfl | simp [lv_args, cat_rf, cat_i, cat_l, cat_r]]
  refine j_iconst X (a := 0) dX3_callBack_0 (q := 1) rfl ?_
  refine j_istore_n X (i := 2) dX3_callBack_1 rfl (by decide) (q := 2) rfl (lv' := [(2, .int (iI (0))), (0, .ref (ad 0 0)), (1, va_rf (pt (ad 2) (f)))]) (by first | rfl | simp [cat_rf, cat_i, cat_l, cat_r]) ?_
  refine j_iconst X (a := 0) dX3_callBack_2 (q := 3) rfl ?_
  refine j_istore_n X (i := 3) dX3_callBack_3 rfl (by decide) (q := 4) rfl (lv' := [(3, .int (iI (0))), (2, .int (iI (0))), (0, .ref (ad 0 0)), (1, va_rf (pt (ad 2) (f)))]) (by first | rfl | simp [cat_rf, cat_i, cat_l, cat_r]) ?_
  have loop4 : ∀ (kk : Nat) (SL : St) (wL : Wd) (i acc : Int), (0 ≤ i ∧ i ≤ nm) → (nm - i).toNat = kk → SL = cb1 S f i.toNat → acc = cbn S f i.toNat → CW base ca ad n nc nm SL wL → IC n nc nm SL → Fr 0 w wL → J p l e (Rm 2 0 0) s m args below meth c (vx_MQ below (Qn D base (fun v w' => v = some (.int (iI (cbn S f nm.toNat))) ∧ (CW base ca ad n nc nm (cbS S nm f) w' ∧ IC n nc nm (cbS S nm f)) ∧ Fr 0 w w')) (Xn D base (fun _ _ => False)) args s 0 0 (fun q => base ≤ q)) D base 7 0 0 4 [(0, .ref (ad 0 0)), (1, va_rf (pt (ad 2) (f))), (2, .int (iI (acc))), (3, .int (iI (i)))] [] wL := by
    intro kk
    induction kk using Nat.strongRecOn with
    | ind kk ih =>
      intro SL wL i acc hi hkk hSL hv hCL hIL hFL
      obtain ⟨hn', hnc', hnm', e3', e4', e5', h6', h7', h8'⟩ := hIL.top
      refine j_iload_n X dX3_callBack_4 (q := 5) rfl 3 rfl ?_
      refine j_aload_n X dX3_callBack_5 (q := 6) rfl 0 rfl ?_
      refine j_get X (v := .int (iI (SL 4 0))) fl_X3_113 hCL.cal rfl dX3_callBack_6 (q := 9) rfl ?_
      refine j_icmp_ge X (tgt := 59) dX3_callBack_9 (by decide) (q := 12) rfl (by omega) (by omega) (fun c_9 => ?_) (fun c_9 => ?_)
      · skip
        refine j_aload_n X dX3_callBack_59 (q := 60) rfl 0 rfl ?_
        refine j_dup X (by first | rfl | exact cat_rf _) dX3_callBack_60 (q := 61) rfl ?_
        refine j_get X (v := .int (iI (SL 6 0))) fl_X3_224 hCL.cal rfl dX3_callBack_61 (q := 64) rfl ?_
        refine j_iload_n X dX3_callBack_64 (q := 65) rfl 2 rfl ?_
        refine j_iadd X dX3_callBack_65 (q := 66) rfl ?_
        refine jp_6 X fp_X3_224 hCL dX3_callBack_66 (q := 69) rfl (fun w1 hC1 hF1 => ?_)
        have hI1 := IC.up6 hIL (v := SL 6 0 + acc) trivial
        obtain ⟨T, hT⟩ : ∃ T, T = up SL 6 0 (SL 6 0 + acc) := ⟨_, rfl⟩
        rw [← hT] at hC1 hI1
        have hTe : T = up (cb1 S f nm.toNat) 6 0 (cb1 S f nm.toNat 6 0 + cbn S f nm.toNat) := by rw [hT, hSL, hv, show i = nm by omega]
        have hacc : acc = cbn S f nm.toNat := by rw [hv, show i = nm by omega]
        have hF1' := hFL.tr hF1
        obtain ⟨hn2, hnc2, hnm2, e32, e42, e52, h62, h72, h82⟩ := hI1.top
        refine j_aload_n X dX3_callBack_69 (q := 70) rfl 0 rfl ?_
        refine j_get X (v := .ref (ad 0 1)) fl_X3_11 hC1.cal rfl dX3_callBack_70 (q := 73) rfl ?_
        refine j_astore_n X (i := 3) dX3_callBack_73 rfl (by decide) (q := 74) rfl (lv' := [(3, .ref (ad 0 1)), (0, .ref (ad 0 0)), (1, va_rf (pt (ad 2) (f))), (2, .int (iI (acc)))]) (by first | rfl | simp [cat_rf, cat_i, cat_l, cat_r]) ?_
        refine j_aload_n X dX3_callBack_74 (q := 75) rfl 0 rfl ?_
        refine j_alen X (t := 2) (N := 12) rfl hC1.told rfl dX3_callBack_75 (q := 76) rfl ?_
        refine j_istore X (i := 4) dX3_callBack_76 (by decide) (q := 78) rfl (lv' := [(4, .int (iI ((12 : Nat)))), (3, .ref (ad 0 1)), (0, .ref (ad 0 0)), (1, va_rf (pt (ad 2) (f))), (2, .int (iI (acc)))]) (by first | rfl | simp [cat_rf, cat_i, cat_l, cat_r]) ?_
        refine j_iconst X (a := 0) dX3_callBack_78 (q := 79) rfl ?_
        refine j_istore X (i := 5) dX3_callBack_79 (by decide) (q := 81) rfl (lv' := [(5, .int (iI (0))), (4, .int (iI ((12 : Nat)))), (3, .ref (ad 0 1)), (0, .ref (ad 0 0)), (1, va_rf (pt (ad 2) (f))), (2, .int (iI (acc)))]) (by first | rfl | simp [cat_rf, cat_i, cat_l, cat_r]) ?_
        have loop81 : ∀ (kk : Nat) (SM : St) (wM : Wd) (j : Int), (0 ≤ j ∧ j ≤ 12) → (12 - j).toNat = kk → SM = cb2 T f j.toNat → CW base ca ad n nc nm SM wM → IC n nc nm SM → Fr 0 w wM → J p l e (Rm 2 0 0) s m args below meth c (vx_MQ below (Qn D base (fun v w' => v = some (.int (iI (cbn S f nm.toNat))) ∧ (CW base ca ad n nc nm (cbS S nm f) w' ∧ IC n nc nm (cbS S nm f)) ∧ Fr 0 w w')) (Xn D base (fun _ _ => False)) args s 0 0 (fun q => base ≤ q)) D base 7 0 0 81 [(0, .ref (ad 0 0)), (1, va_rf (pt (ad 2) (f))), (2, .int (iI (acc))), (3, .ref (ad 0 1)), (4, .int (iI ((12 : Nat)))), (5, .int (iI (j)))] [] wM := by
          intro kk
          induction kk using Nat.strongRecOn with
          | ind kk ih =>
            intro SM wM j hj hkk hSM hCM hIM hFM
            obtain ⟨hn3, hnc3, hnm3, e33, e43, e53, h63, h73, h83⟩ := hIM.top
            refine j_iload X dX3_callBack_81 (q := 83) rfl 5 rfl ?_
            refine j_iload X dX3_callBack_83 (q := 85) rfl 4 rfl ?_
            refine j_icmp_ge X (tgt := 141) dX3_callBack_85 (by decide) (q := 88) rfl (by omega) (by omega) (fun c_85 => ?_) (fun c_85 => ?_)
            · skip
              refine j_iload_n X dX3_callBack_141 (q := 142) rfl 2 rfl ?_
              exact j_iret X rfl dX3_callBack_142 (⟨by rw [hacc], by rw [cbS, ← hTe, show cb2 T f 12 = SM by rw [hSM, show j = 12 by omega]; rfl]; exact ⟨hCM, hIM⟩, hFM⟩) (by decide) (by decide)
            · skip
              refine j_aload_n X dX3_callBack_88 (q := 89) rfl 3 rfl ?_
              refine j_iload X dX3_callBack_89 (q := 91) rfl 5 rfl ?_
              refine j_aald X (t := 2) (i := j) rfl hCM.told (by omega) (by decide) dX3_callBack_91 (q := 92) rfl ?_
              rw [rw_pt (by omega)]
              refine j_astoreq X (i := 6) dX3_callBack_92 (by decide) (q := 94) rfl (lv' := [(6, va_rf (pt (ad 1) (if j < SM 3 0 then j else -1))), (0, .ref (ad 0 0)), (1, va_rf (pt (ad 2) (f))), (2, .int (iI (acc))), (3, .ref (ad 0 1)), (4, .int (iI ((12 : Nat)))), (5, .int (iI (j)))]) (by first | rfl | simp [cat_rf, cat_i, cat_l, cat_r]) ?_
              refine j_aloadq X dX3_callBack_94 (q := 96) rfl 0 rfl ?_
              refine j_ifnullp X (tgt := 135) dX3_callBack_96 (by decide) (q := 99) rfl (fun c_96 => ?_) (fun c_96 => ?_)
              · skip
                refine j_iinc X dX3_callBack_135 6 rfl (by decide) (q := 138) rfl (lv' := [(5, .int (iI (j + 1))), (6, va_rf (pt (ad 1) (if j < SM 3 0 then j else -1))), (0, .ref (ad 0 0)), (1, va_rf (pt (ad 2) (f))), (2, .int (iI (acc))), (3, .ref (ad 0 1)), (4, .int (iI ((12 : Nat))))]) (by first | rfl | simp [cat_rf, cat_i, cat_l, cat_r]) ?_
                refine j_goto X (tgt := 81) dX3_callBack_138 (by decide) ?_
                have hcs := cb2_s (T := T) (f := f) hj.1
                exact j_lv (ih ((12 - (j + 1)).toNat) (by omega) SM wM (j + 1) (by omega) rfl (by rw [hcs, ← hSM, if_neg (by split at c_96 <;> omega)]) hCM hIM hFM) [2, 3, 4, 5, 6, 0] rfl
              · skip
                have hjn : j < n := by split at c_96 <;> omega
                rw [if_pos (by omega)]
                obtain ⟨i0, i1, i2, i3, i4, i5, i6, i7, i8⟩ := hIM.ins hj.1 hjn
                refine j_aloadq X dX3_callBack_99 (q := 101) rfl 0 rfl ?_
                refine j_getp X (v := va_rf (pt (ad 2) (SM 15 j))) fl_X3_95 hj.1 (hCM.ins hj.1 hjn) rfl dX3_callBack_101 (q := 104) rfl ?_
                refine j_ifnullp X (tgt := 135) dX3_callBack_104 (by decide) (q := 107) rfl (fun c_104 => ?_) (fun c_104 => ?_)
                · skip
                  refine j_iinc X dX3_callBack_135 6 rfl (by decide) (q := 138) rfl (lv' := [(5, .int (iI (j + 1))), (6, va_rf (pt (ad 1) (j))), (0, .ref (ad 0 0)), (1, va_rf (pt (ad 2) (f))), (2, .int (iI (acc))), (3, .ref (ad 0 1)), (4, .int (iI ((12 : Nat))))]) (by first | rfl | simp [cat_rf, cat_i, cat_l, cat_r]) ?_
                  refine j_goto X (tgt := 81) dX3_callBack_138 (by decide) ?_
                  have hcs := cb2_s (T := T) (f := f) hj.1
                  exact j_lv (ih ((12 - (j + 1)).toNat) (by omega) SM wM (j + 1) (by omega) rfl (by rw [hcs, ← hSM, if_neg (by omega)]) hCM hIM hFM) [2, 3, 4, 5, 6, 0] rfl
                · skip
                  obtain ⟨k0, k1, k2, k3, k4, k5, k6, k7, k8, k9⟩ := hIM.kal c_104 (show SM 15 j < nc by omega)
                  refine j_aloadq X dX3_callBack_107 (q := 109) rfl 0 rfl ?_
                  refine j_getp X (v := va_rf (pt (ad 2) (SM 15 j))) fl_X3_95 hj.1 (hCM.ins hj.1 hjn) rfl dX3_callBack_109 (q := 112) rfl ?_
                  refine j_getp X (v := va_rf (pt (ad 2) (SM 24 (SM 15 j)))) fl_X3_234 c_104 (hCM.kal c_104 i5.2) rfl dX3_callBack_112 (q := 115) rfl ?_
                  refine j_aloadq_n X dX3_callBack_115 (q := 116) rfl 2 rfl ?_
                  refine j_aload_n X dX3_callBack_116 (q := 117) rfl 1 rfl ?_
                  refine j_get X (v := .int (iI (SM 8 0))) fl_X3_99 hCM.cal rfl dX3_callBack_117 (q := 120) rfl ?_
                  refine j_callS X (As := [va_rf (pt (ad 2) (SM 24 (SM 15 j))), va_rf (pt (ad 2) (f)), .int (iI (SM 8 0))]) (st := [])  (c_X3_restsOn hlt hCM hIM (SM 24 (SM 15 j)) f (SM 8 0) (by omega) (by omega) (by omega)) ss_X3_238 (by decide) rfl (by first | decide | exact Nat.le_of_ble_eq_true rfl | simp [cat_rf, cat_i, cat_l, cat_r]) dX3_callBack_120 (by decide) (fun _ _ h => h.elim) ?_
                  rintro v9 w9 ⟨rfl, rfl⟩
                  refine j_st (st := [.int (iI (rst SM f (SM 8 0) 513 (SM 24 (SM 15 j))))]) ?_
                  have hb9 := rst_b SM f (SM 8 0) 513 (SM 24 (SM 15 j))
                  refine j_if_eq X (tgt := 135) dX3_callBack_123 (by decide) (q := 126) rfl (by omega) (fun c_123 => ?_) (fun c_123 => ?_)
                  · skip
                    refine j_iinc X dX3_callBack_135 6 rfl (by decide) (q := 138) rfl (lv' := [(5, .int (iI (j + 1))), (6, va_rf (pt (ad 1) (j))), (0, .ref (ad 0 0)), (1, va_rf (pt (ad 2) (f))), (2, .int (iI (acc))), (3, .ref (ad 0 1)), (4, .int (iI ((12 : Nat))))]) (by first | rfl | simp [cat_rf, cat_i, cat_l, cat_r]) ?_
                    refine j_goto X (tgt := 81) dX3_callBack_138 (by decide) ?_
                    have hcs := cb2_s (T := T) (f := f) hj.1
                    exact j_lv (ih ((12 - (j + 1)).toNat) (by omega) SM wM (j + 1) (by omega) rfl (by rw [hcs, ← hSM, if_neg (by omega)]) hCM hIM hFM) [2, 3, 4, 5, 6, 0] rfl
                  · skip
                    refine j_aloadq X dX3_callBack_126 (q := 128) rfl 0 rfl ?_
                    refine j_getp X (v := va_rf (pt (ad 2) (SM 15 j))) fl_X3_95 hj.1 (hCM.ins hj.1 hjn) rfl dX3_callBack_128 (q := 131) rfl ?_
                    refine j_iconst X (a := 1) dX3_callBack_131 (q := 132) rfl ?_
                    refine jp_26 X fp_X3_186 hCM c_104 i5.2 (Or.inr rfl) dX3_callBack_132 (q := 135) rfl (fun w3 hC3 hF3 => ?_)
                    refine j_iinc X dX3_callBack_135 6 rfl (by decide) (q := 138) rfl (lv' := [(5, .int (iI (j + 1))), (6, va_rf (pt (ad 1) (j))), (0, .ref (ad 0 0)), (1, va_rf (pt (ad 2) (f))), (2, .int (iI (acc))), (3, .ref (ad 0 1)), (4, .int (iI ((12 : Nat))))]) (by first | rfl | simp [cat_rf, cat_i, cat_l, cat_r]) ?_
                    refine j_goto X (tgt := 81) dX3_callBack_138 (by decide) ?_
                    have hcs := cb2_s (T := T) (f := f) hj.1
                    exact j_lv (ih ((12 - (j + 1)).toNat) (by omega) _ w3 (j + 1) (by omega) rfl (by rw [hcs, ← hSM, if_pos (by omega)]) hC3 (IC.up26 hIM (by decide)) (hFM.tr hF3)) [2, 3, 4, 5, 6, 0] rfl
        exact j_lv (loop81 _ T w1 0 (by decide) rfl rfl hC1 hI1 hF1') [3, 4, 5, 2, 1, 0] rfl
      · skip
        refine j_iload_n X dX3_callBack_12 (q := 13) rfl 3 rfl ?_
        refine j_aload_n X dX3_callBack_13 (q := 14) rfl 0 rfl ?_
        refine j_get X (v := .ref (ad 0 2)) fl_X3_17 hCL.cal rfl dX3_callBack_14 (q := 17) rfl ?_
        refine j_alen X (t := 3) (N := 200) rfl hCL.made rfl dX3_callBack_17 (q := 18) rfl ?_
        refine j_icmp_ge X (tgt := 59) dX3_callBack_18 (by decide) (q := 21) rfl (by omega) (by omega) (fun c_18 => ?_) (fun c_18 => ?_)
        · skip
          exact absurd c_18 (by omega)
        · skip
          refine j_aload_n X dX3_callBack_21 (q := 22) rfl 0 rfl ?_
          refine j_get X (v := .ref (ad 0 2)) fl_X3_17 hCL.cal rfl dX3_callBack_22 (q := 25) rfl ?_
          refine j_iload_n X dX3_callBack_25 (q := 26) rfl 3 rfl ?_
          refine j_aald X (t := 3) (i := i) rfl hCL.made (by omega) (by decide) dX3_callBack_26 (q := 27) rfl ?_
          rw [rw_ptin (ad := ad 3) (c := SL 4 0) (i := i) (by omega) (by omega)]
          refine j_astoreq X (i := 4) dX3_callBack_27 (by decide) (q := 29) rfl (lv' := [(4, va_rf (pt (ad 3) (i))), (0, .ref (ad 0 0)), (1, va_rf (pt (ad 2) (f))), (2, .int (iI (acc))), (3, .int (iI (i)))]) (by first | rfl | simp [cat_rf, cat_i, cat_l, cat_r]) ?_
          refine j_aloadq X dX3_callBack_29 (q := 31) rfl 0 rfl ?_
          refine j_ifnullp X (tgt := 53) dX3_callBack_31 (by decide) (q := 34) rfl (fun c_31 => ?_) (fun c_31 => ?_)
          · skip
            exact absurd c_31 (by omega)
          · skip
            refine j_aload_n X dX3_callBack_34 (q := 35) rfl 1 rfl ?_
            refine j_aloadq X dX3_callBack_35 (q := 37) rfl 0 rfl ?_
            refine j_aloadq_n X dX3_callBack_37 (q := 38) rfl 2 rfl ?_
            refine j_callV X (As := [va_rf (pt (ad 3) (i)), va_rf (pt (ad 2) (f))]) (st := []) hCL.cal rfl (c_X3_isAtStake hlt hCL hIL i f ⟨hi.1, by omega⟩ hf) sv_X3_242 (by decide) rfl (by first | decide | exact Nat.le_of_ble_eq_true rfl | simp [cat_rf, cat_i, cat_l, cat_r]) dX3_callBack_38 (by decide) (fun _ _ h => h.elim) ?_
            rintro v9 w9 ⟨rfl, rfl⟩
            refine j_st (st := [.int (iI (stk SL f i))]) ?_
            have hb9 := stk_b SL f i
            refine j_if_eq X (tgt := 53) dX3_callBack_41 (by decide) (q := 44) rfl (by omega) (fun c_41 => ?_) (fun c_41 => ?_)
            · skip
              refine j_iinc X dX3_callBack_53 4 rfl (by decide) (q := 56) rfl (lv' := [(3, .int (iI (i + 1))), (4, va_rf (pt (ad 3) (i))), (0, .ref (ad 0 0)), (1, va_rf (pt (ad 2) (f))), (2, .int (iI (acc)))]) (by first | rfl | simp [cat_rf, cat_i, cat_l, cat_r]) ?_
              refine j_goto X (tgt := 4) dX3_callBack_56 (by decide) ?_
              have hcs := cb1_s (S := S) (f := f) hi.1
              exact j_lv (ih ((nm - (i + 1)).toNat) (by omega) SL wL (i + 1) acc (by omega) rfl (by rw [hcs.1, ← hSL, if_neg (by omega)]) (by rw [hcs.2, ← hSL]; omega) hCL hIL hFL) [2, 3, 4, 0] rfl
            · skip
              refine j_aloadq X dX3_callBack_44 (q := 46) rfl 0 rfl ?_
              refine j_iconst X (a := 1) dX3_callBack_46 (q := 47) rfl ?_
              refine jp_32 X fp_X3_221 hCL hi.1 (by omega) (Or.inr rfl) dX3_callBack_47 (q := 50) rfl (fun w1 hC1 hF1 => ?_)
              refine j_iinc X dX3_callBack_50 3 rfl (by decide) (q := 53) rfl (lv' := [(2, .int (iI (acc + 1))), (4, va_rf (pt (ad 3) (i))), (0, .ref (ad 0 0)), (1, va_rf (pt (ad 2) (f))), (3, .int (iI (i)))]) (by first | rfl | simp [cat_rf, cat_i, cat_l, cat_r]) ?_
              refine j_iinc X dX3_callBack_53 4 rfl (by decide) (q := 56) rfl (lv' := [(3, .int (iI (i + 1))), (2, .int (iI (acc + 1))), (4, va_rf (pt (ad 3) (i))), (0, .ref (ad 0 0)), (1, va_rf (pt (ad 2) (f)))]) (by first | rfl | simp [cat_rf, cat_i, cat_l, cat_r]) ?_
              refine j_goto X (tgt := 4) dX3_callBack_56 (by decide) ?_
              have hcs := cb1_s (S := S) (f := f) hi.1
              exact j_lv (ih ((nm - (i + 1)).toNat) (by omega) _ w1 (i + 1) (acc + 1) (by omega) rfl (by rw [hcs.1, ← hSL, if_pos (by omega)]) (by rw [hcs.2, ← hSL]; omega) hC1 (IC.up32 hIL (by decide)) (hFL.tr hF1)) [3, 4, 1, 0] rfl
  exact j_lv (loop4 _ S w 0 0 (by omega) rfl rfl rfl hC hI Fr.rf) [2, 3, 1, 0] rfl
