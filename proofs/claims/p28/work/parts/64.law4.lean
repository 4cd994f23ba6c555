/-- what holds between two steps of the law -/
def LV (base : Nat) (ca : Nat → ClassId) (ax o : Nat) (cn : Int) (w : Wd) : Prop := ∃ (n nc nm : Int) (S T : St) (ad : Nat → Int → Nat) (g : Int → Int), Sim cn n nc nm S T ∧ CW base ca ad n nc nm S w ∧ w o = some (eT ca g) ∧ TA n S g ∧ ad 0 0 = ax
theorem niv_spec (t s v : Int) : (t < s ∧ 1 < v.tdiv 2 ∧ niv t s v = v.tdiv 2) ∨ (t < s ∧ v.tdiv 2 ≤ 1 ∧ niv t s v = 1) ∨ (s ≤ t ∧ 2 * s ≤ t ∧ v + v.tdiv 4 < 999 ∧ niv t s v = v + v.tdiv 4) ∨ (s ≤ t ∧ 2 * s ≤ t ∧ 999 ≤ v + v.tdiv 4 ∧ niv t s v = 999) ∨ (s ≤ t ∧ t < 2 * s ∧ niv t s v = v) := by
  unfold niv
  by_cases h1 : t < s
  · rw [if_pos h1]
    by_cases h2 : 1 < v.tdiv 2
    · rw [if_pos h2]; exact Or.inl ⟨h1, h2, rfl⟩
    · rw [if_neg h2]; exact Or.inr (Or.inl ⟨h1, by omega, rfl⟩)
  · rw [if_neg h1]
    by_cases h2 : 2 * s ≤ t
    · rw [if_pos h2]
      by_cases h3 : v + v.tdiv 4 < 999
      · rw [if_pos h3]; exact Or.inr (Or.inr (Or.inl ⟨by omega, h2, h3, rfl⟩))
      · rw [if_neg h3]; exact Or.inr (Or.inr (Or.inr (Or.inl ⟨by omega, h2, by omega, rfl⟩)))
    · rw [if_neg h2]; exact Or.inr (Or.inr (Or.inr (Or.inr ⟨by omega, by omega, rfl⟩)))
theorem sk_spec {nm : Int} {S : St} (hnm : 0 ≤ nm) (z : Int) : ∃ sk : Int, sk = (if S 15 z < 0 then 0 else sm (stk S (S 15 z)) nm.toNat) ∧ ((S 15 z < 0 ∧ sk = 0) ∨ (0 ≤ S 15 z ∧ sk = sm (stk S (S 15 z)) nm.toNat)) ∧ (0 ≤ sk ∧ sk ≤ nm) := by
  refine ⟨_, rfl, ?_⟩
  have hb := sm_b (f := stk S (S 15 z)) (stk_b S (S 15 z)) nm.toNat
  by_cases h : S 15 z < 0
  · rw [if_pos h]; exact ⟨Or.inl ⟨h, rfl⟩, by omega⟩
  · rw [if_neg h]; exact ⟨Or.inr ⟨by omega, rfl⟩, by omega⟩

set_option maxRecDepth 100000 in
set_option maxHeartbeats 4000000 in
theorem c_L_calibrates {l : Launch} (hlt : l.stackTraces = false) {D : va_G} {ca : Nat → ClassId} {base : Nat} {ad : Nat → Int → Nat} {cn n nc nm : Int} {S T : St} {w : Wd} (hC : CW base ca ad n nc nm S w) (hS : Sim cn n nc nm S T) {o : Nat} {g : Int → Int} (ho : w o = some (eT ca g)) (hA : TA n S g) (z x lf : Int) (hz : 0 ≤ z ∧ z < n) (hx : -99999 ≤ x ∧ x ≤ 99999) (hlf : -99999 ≤ lf ∧ lf ≤ 99999) (hfo : S 14 z = -1 ∨ fof (S 14) (inF S) 12 (S 14 z) = -1) (hcn : cn ≤ 511) : CT l D ca base yL_calibrates cL_calibrates 17 (some .boolean) 6 18 120 [.ref (ad 0 0), .ref (o), .int (iI (z)), .int (iI (x)), .int (iI (lf))] w (fun v w' => v = some (.int (iI 1)) ∧ LV base ca (ad 0 0) o (cn + 1) w') (fun _ _ => False) := by
  have hI := hS.1
  obtain ⟨hn, hnc, hnm, e3, e4, e5, h6, h7, h8⟩ := hI.top
  obtain ⟨i0, i1, i2, i3, i4, i5, i6, i17, i18⟩ := hI.ins hz.1 hz.2
  have hfo2 : fof (S 14) (inF S) 12 (S 14 z) = -1 := by
    rcases hfo with q | q
    · exact fof_n (by omega)
    · exact q
  have hlt5 : nc < 512 := by have := hS.2.1.2.2.2.1; omega
  have h16 : ∀ i, 0 ≤ i → i < n → S 16 i ≤ 511 := fun i a b => by have := hS.2.1.2.2.2.2 i a b; omega
  have hcall := c_X3_calibrate (D := D) hlt hC hI z (by omega) x lf (by omega) (by omega) hlt5 hS.top.1 h16
  obtain ⟨T2, hS2, ⟨q11, q12, q14⟩, q15, q7, q21, q13, q16, q26, q22, q6, qR, qst⟩ := hS.ka hcn hz hx hlf hfo2
  obtain ⟨-, -, hcb0, hcb1⟩ := hS.cbs
  generalize kaS S nc nm z x lf = S2 at *
  generalize kaR S nc nm z x lf = R9 at *
  have hI2 := hS2.1
  obtain ⟨-, -, hdz0, hdz1⟩ := hS2.cbs
  obtain ⟨j0, j1, j2, j3, j4, j5, j6, j17, j18⟩ := hI2.ins hz.1 hz.2
  have hen := hI2.ends (i := z) (by omega) hz.2
  have hinF : inF S2 z ≠ 0 := inF_ka (by rw [q15]; omega) (by rw [q15, q21, q7]; omega) (by rw [q15]; exact q26)
  have hff := fof_12 hen hz.1 hinF
  have hbf := fof_r (ref := S2 14) (inF := inF S2) (n := n) (fun i a b => (hI2.ins a b).2.2.2.2.1) 12 z (by omega) hz.2 (by omega)
  have hdue2 : due S2 z = S 7 0 + S2 13 z := by rw [due, q15, q21]
  have hniv := niv_spec (S 11 z) (iabs x) (S 13 z)
  have hia : 0 ≤ iabs x ∧ iabs x ≤ 99999 := by unfold iabs; split <;> omega
  have ht4 := td_b (a := S 13 z) (b := 4) (by omega) (by decide)
  have ht2 := td_b (a := S 13 z) (b := 2) (by omega) (by decide)
  have h13 : (0 ≤ S 15 z ∧ S2 13 z = niv (S 11 z) (iabs x) (S 13 z)) ∨ (S 15 z < 0 ∧ S2 13 z = S 13 z) := by
    by_cases q : 0 ≤ S 15 z
    · rw [if_pos q] at q13; exact Or.inl ⟨q, q13⟩
    · rw [if_neg q] at q13; exact Or.inr ⟨by omega, q13⟩
  have h1R : ((0 ≤ S 15 z ∧ S 11 z < iabs x) ∧ R9 = sm (stk S (S 15 z)) nm.toNat ∧ S2 16 z = S 16 z + 1) ∨ (¬ (0 ≤ S 15 z ∧ S 11 z < iabs x) ∧ R9 = 0 ∧ S2 16 z = S 16 z) := by
    by_cases q : fl S z x
    · rw [if_pos q] at qR q16; exact Or.inl ⟨q, qR, q16⟩
    · rw [if_neg q] at qR q16; exact Or.inr ⟨q, qR, q16⟩
  have hnm0 := hnm.1
  refine CT.mk hlt (by decide +kernel) (by first | exact Nat.le_of_ble_eq_true rfl | simp [lg_sl, cat_rf, cat_i, cat_l, cat_r]) ?_
  intro p e s m args below meth c X htab
  rw [show lv_args 0 [.ref (ad 0 0), .ref (o), .int (iI (z)), .int (iI (x)), .int (iI (lf))] = [(0, .ref (ad 0 0)), (1, .ref (o)), (2, .int (iI (z))), (3, .int (iI (x))), (4, .int (iI (lf)))] from by first | rfl | simp [lv_args, cat_rf, cat_i, cat_l, cat_r]]
  refine j_aload_n X dL_calibrates_0 (q := 1) rfl 0 rfl ?_
  refine j_iload_n X dL_calibrates_1 (q := 2) rfl 2 rfl ?_
  refine j_callV X (As := [.int (iI (z))]) (st := []) hC.cal rfl (c_X3_dueOf hlt hC hI z (by omega)) sv_L_22 (by decide) rfl (by first | decide | exact Nat.le_of_ble_eq_true rfl | simp [cat_rf, cat_i, cat_l, cat_r]) dL_calibrates_2 (by first | decide | exact ⟨by show _ ≤ (18 : Nat); omega, by show _ ≤ (120 : Nat); omega⟩) (fun _ _ hE => by exfalso; omega) ?_
  rintro v9 w9 ⟨-, rfl, rfl⟩
  refine j_st (st := [.int (iI (if S 15 z < 0 then -1 else S 21 (S 15 z) + S 13 z))]) ?_
  obtain ⟨du, hdu, hdu2⟩ := du_spec hI hz
  rw [← hdu]
  have jn_v_1 : ∀ v_1 : Int, (0 ≤ S 15 z ∧ v_1 = 1) ∨ (S 15 z < 0 ∧ v_1 = 0) → J p l e (Rm 6 18 120) s m args below meth c (vx_MQ below (Qn D base (fun v w' => v = some (.int (iI 1)) ∧ LV base ca (ad 0 0) o (cn + 1) w')) (Xn D base (fun _ _ => False)) args s 18 120 (fun q => base ≤ q)) D base 17 1 6 14 [(0, .ref (ad 0 0)), (1, .ref (o)), (2, .int (iI (z))), (3, .int (iI (x))), (4, .int (iI (lf)))] [.int (iI (v_1))] w := by
    intro v_1 hv_1
    refine j_istore X (i := 5) dL_calibrates_14 (by decide) (q := 16) rfl (lv' := [(5, .int (iI (v_1))), (0, .ref (ad 0 0)), (1, .ref (o)), (2, .int (iI (z))), (3, .int (iI (x))), (4, .int (iI (lf)))]) (by first | rfl | simp [cat_rf, cat_i, cat_l, cat_r]) ?_
    refine j_aload_n X dL_calibrates_16 (q := 17) rfl 1 rfl ?_
    refine j_iload_n X dL_calibrates_17 (q := 18) rfl 3 rfl ?_
    refine j_callV X (As := [.int (iI (z))]) (st := []) hC.cal rfl (c_X3_atStake hlt hC hI z (by omega)) sv_L_56 (by decide) rfl (by first | decide | exact Nat.le_of_ble_eq_true rfl | simp [cat_rf, cat_i, cat_l, cat_r]) dL_calibrates_18 (by first | decide | exact ⟨by show _ ≤ (18 : Nat); omega, by show _ ≤ (120 : Nat); omega⟩) (fun _ _ hE => by exfalso; omega) ?_
    rintro v9 w9 ⟨-, rfl, rfl⟩
    refine j_st (st := [.int (iI (if S 15 z < 0 then 0 else sm (stk S (S 15 z)) nm.toNat))]) ?_
    obtain ⟨sk, hsk, hsk2, hsk3⟩ := sk_spec hnm0 z
    rw [← hsk]
    refine j_istore X (i := 6) dL_calibrates_21 (by decide) (q := 23) rfl (lv' := [(6, .int (iI (sk))), (5, .int (iI (v_1))), (0, .ref (ad 0 0)), (1, .ref (o)), (2, .int (iI (z))), (3, .int (iI (x))), (4, .int (iI (lf)))]) (by first | rfl | simp [cat_rf, cat_i, cat_l, cat_r]) ?_
    refine j_aload_n X dL_calibrates_23 (q := 24) rfl 2 rfl ?_
    refine j_callV X (As := []) (st := []) hC.cal rfl (c_X3_calledBack hlt hC hI ) sv_L_65 (by decide) rfl (by first | decide | exact Nat.le_of_ble_eq_true rfl | simp [cat_rf, cat_i, cat_l, cat_r]) dL_calibrates_24 (by first | decide | exact ⟨by show _ ≤ (18 : Nat); omega, by show _ ≤ (120 : Nat); omega⟩) (fun _ _ hE => hE.elim) ?_
    rintro v9 w9 ⟨rfl, rfl⟩
    refine j_st (st := [.int (iI (S 6 0))]) ?_
    refine j_istore X (i := 7) dL_calibrates_27 (by decide) (q := 29) rfl (lv' := [(7, .int (iI (S 6 0))), (6, .int (iI (sk))), (5, .int (iI (v_1))), (0, .ref (ad 0 0)), (1, .ref (o)), (2, .int (iI (z))), (3, .int (iI (x))), (4, .int (iI (lf)))]) (by first | rfl | simp [cat_rf, cat_i, cat_l, cat_r]) ?_
    refine j_aload_n X dL_calibrates_29 (q := 30) rfl 3 rfl ?_
    refine j_iload_n X dL_calibrates_30 (q := 31) rfl 5 rfl ?_
    refine j_callV X (As := [.int (iI (z))]) (st := []) hC.cal rfl (c_X3_failures hlt hC hI z (by omega)) sv_L_30 (by decide) rfl (by first | decide | exact Nat.le_of_ble_eq_true rfl | simp [cat_rf, cat_i, cat_l, cat_r]) dL_calibrates_31 (by first | decide | exact ⟨by show _ ≤ (18 : Nat); omega, by show _ ≤ (120 : Nat); omega⟩) (fun _ _ hE => by exfalso; omega) ?_
    rintro v9 w9 ⟨-, rfl, rfl⟩
    refine j_st (st := [.int (iI (S 16 z))]) ?_
    refine j_istore X (i := 8) dL_calibrates_34 (by decide) (q := 36) rfl (lv' := [(8, .int (iI (S 16 z))), (7, .int (iI (S 6 0))), (6, .int (iI (sk))), (5, .int (iI (v_1))), (0, .ref (ad 0 0)), (1, .ref (o)), (2, .int (iI (z))), (3, .int (iI (x))), (4, .int (iI (lf)))]) (by first | rfl | simp [cat_rf, cat_i, cat_l, cat_r]) ?_
    refine j_aload_n X dL_calibrates_36 (q := 37) rfl 4 rfl ?_
    refine j_iload_n X dL_calibrates_37 (q := 38) rfl 6 rfl ?_
    refine j_callV X (As := [.int (iI (z))]) (st := []) hC.cal rfl (c_X3_intervalOf hlt hC hI z (by omega)) sv_L_68 (by decide) rfl (by first | decide | exact Nat.le_of_ble_eq_true rfl | simp [cat_rf, cat_i, cat_l, cat_r]) dL_calibrates_38 (by first | decide | exact ⟨by show _ ≤ (18 : Nat); omega, by show _ ≤ (120 : Nat); omega⟩) (fun _ _ hE => by exfalso; omega) ?_
    rintro v9 w9 ⟨-, rfl, rfl⟩
    refine j_st (st := [.int (iI (S 13 z))]) ?_
    refine j_istore X (i := 9) dL_calibrates_41 (by decide) (q := 43) rfl (lv' := [(9, .int (iI (S 13 z))), (8, .int (iI (S 16 z))), (7, .int (iI (S 6 0))), (6, .int (iI (sk))), (5, .int (iI (v_1))), (0, .ref (ad 0 0)), (1, .ref (o)), (2, .int (iI (z))), (3, .int (iI (x))), (4, .int (iI (lf)))]) (by first | rfl | simp [cat_rf, cat_i, cat_l, cat_r]) ?_
    have jn_v_2 : ∀ v_2 : Int, v_2 = iabs x → J p l e (Rm 6 18 120) s m args below meth c (vx_MQ below (Qn D base (fun v w' => v = some (.int (iI 1)) ∧ LV base ca (ad 0 0) o (cn + 1) w')) (Xn D base (fun _ _ => False)) args s 18 120 (fun q => base ≤ q)) D base 17 4 24 53 [(9, .int (iI (S 13 z))), (8, .int (iI (S 16 z))), (7, .int (iI (S 6 0))), (6, .int (iI (sk))), (5, .int (iI (v_1))), (0, .ref (ad 0 0)), (1, .ref (o)), (2, .int (iI (z))), (3, .int (iI (x))), (4, .int (iI (lf)))] [.int (iI (v_2))] w := by
      intro v_2 hv_2
      refine j_istore X (i := 10) dL_calibrates_53 (by decide) (q := 55) rfl (lv' := [(10, .int (iI (v_2))), (9, .int (iI (S 13 z))), (8, .int (iI (S 16 z))), (7, .int (iI (S 6 0))), (6, .int (iI (sk))), (5, .int (iI (v_1))), (0, .ref (ad 0 0)), (1, .ref (o)), (2, .int (iI (z))), (3, .int (iI (x))), (4, .int (iI (lf)))]) (by first | rfl | simp [cat_rf, cat_i, cat_l, cat_r]) ?_
      have jn_v_3 : ∀ v_3 : Int, ((0 ≤ S 15 z ∧ S 11 z < iabs x) ∧ v_3 = 1) ∨ (¬ (0 ≤ S 15 z ∧ S 11 z < iabs x) ∧ v_3 = 0) → J p l e (Rm 6 18 120) s m args below meth c (vx_MQ below (Qn D base (fun v w' => v = some (.int (iI 1)) ∧ LV base ca (ad 0 0) o (cn + 1) w')) (Xn D base (fun _ _ => False)) args s 18 120 (fun q => base ≤ q)) D base 17 4 24 76 [(10, .int (iI (v_2))), (9, .int (iI (S 13 z))), (8, .int (iI (S 16 z))), (7, .int (iI (S 6 0))), (6, .int (iI (sk))), (5, .int (iI (v_1))), (0, .ref (ad 0 0)), (1, .ref (o)), (2, .int (iI (z))), (3, .int (iI (x))), (4, .int (iI (lf)))] [.int (iI (v_3))] w := by
        intro v_3 hv_3
        refine j_istore X (i := 11) dL_calibrates_76 (by decide) (q := 78) rfl (lv' := [(11, .int (iI (v_3))), (10, .int (iI (v_2))), (9, .int (iI (S 13 z))), (8, .int (iI (S 16 z))), (7, .int (iI (S 6 0))), (6, .int (iI (sk))), (5, .int (iI (v_1))), (0, .ref (ad 0 0)), (1, .ref (o)), (2, .int (iI (z))), (3, .int (iI (x))), (4, .int (iI (lf)))]) (by first | rfl | simp [cat_rf, cat_i, cat_l, cat_r]) ?_
        have jn_v_4 : ∀ v_4 : Int, (999 < S 13 z + (S 13 z).tdiv 4 ∧ v_4 = 999) ∨ (S 13 z + (S 13 z).tdiv 4 ≤ 999 ∧ v_4 = S 13 z + (S 13 z).tdiv 4) → J p l e (Rm 6 18 120) s m args below meth c (vx_MQ below (Qn D base (fun v w' => v = some (.int (iI 1)) ∧ LV base ca (ad 0 0) o (cn + 1) w')) (Xn D base (fun _ _ => False)) args s 18 120 (fun q => base ≤ q)) D base 17 4 24 104 [(11, .int (iI (v_3))), (10, .int (iI (v_2))), (9, .int (iI (S 13 z))), (8, .int (iI (S 16 z))), (7, .int (iI (S 6 0))), (6, .int (iI (sk))), (5, .int (iI (v_1))), (0, .ref (ad 0 0)), (1, .ref (o)), (2, .int (iI (z))), (3, .int (iI (x))), (4, .int (iI (lf)))] [.int (iI (v_4))] w := by
          intro v_4 hv_4
          refine j_istore X (i := 12) dL_calibrates_104 (by decide) (q := 106) rfl (lv' := [(12, .int (iI (v_4))), (11, .int (iI (v_3))), (10, .int (iI (v_2))), (9, .int (iI (S 13 z))), (8, .int (iI (S 16 z))), (7, .int (iI (S 6 0))), (6, .int (iI (sk))), (5, .int (iI (v_1))), (0, .ref (ad 0 0)), (1, .ref (o)), (2, .int (iI (z))), (3, .int (iI (x))), (4, .int (iI (lf)))]) (by first | rfl | simp [cat_rf, cat_i, cat_l, cat_r]) ?_
          have jn_v_5 : ∀ v_5 : Int, ((S 13 z).tdiv 2 = 0 ∧ v_5 = 1) ∨ ((S 13 z).tdiv 2 ≠ 0 ∧ v_5 = (S 13 z).tdiv 2) → J p l e (Rm 6 18 120) s m args below meth c (vx_MQ below (Qn D base (fun v w' => v = some (.int (iI 1)) ∧ LV base ca (ad 0 0) o (cn + 1) w')) (Xn D base (fun _ _ => False)) args s 18 120 (fun q => base ≤ q)) D base 17 4 24 121 [(12, .int (iI (v_4))), (11, .int (iI (v_3))), (10, .int (iI (v_2))), (9, .int (iI (S 13 z))), (8, .int (iI (S 16 z))), (7, .int (iI (S 6 0))), (6, .int (iI (sk))), (5, .int (iI (v_1))), (0, .ref (ad 0 0)), (1, .ref (o)), (2, .int (iI (z))), (3, .int (iI (x))), (4, .int (iI (lf)))] [.int (iI (v_5))] w := by
            intro v_5 hv_5
            refine j_istore X (i := 13) dL_calibrates_121 (by decide) (q := 123) rfl (lv' := [(13, .int (iI (v_5))), (12, .int (iI (v_4))), (11, .int (iI (v_3))), (10, .int (iI (v_2))), (9, .int (iI (S 13 z))), (8, .int (iI (S 16 z))), (7, .int (iI (S 6 0))), (6, .int (iI (sk))), (5, .int (iI (v_1))), (0, .ref (ad 0 0)), (1, .ref (o)), (2, .int (iI (z))), (3, .int (iI (x))), (4, .int (iI (lf)))]) (by first | rfl | simp [cat_rf, cat_i, cat_l, cat_r]) ?_
            have jn_v_6 : ∀ v_6 : Int, v_6 = S2 13 z → J p l e (Rm 6 18 120) s m args below meth c (vx_MQ below (Qn D base (fun v w' => v = some (.int (iI 1)) ∧ LV base ca (ad 0 0) o (cn + 1) w')) (Xn D base (fun _ _ => False)) args s 18 120 (fun q => base ≤ q)) D base 17 4 24 158 [(13, .int (iI (v_5))), (12, .int (iI (v_4))), (11, .int (iI (v_3))), (10, .int (iI (v_2))), (9, .int (iI (S 13 z))), (8, .int (iI (S 16 z))), (7, .int (iI (S 6 0))), (6, .int (iI (sk))), (5, .int (iI (v_1))), (0, .ref (ad 0 0)), (1, .ref (o)), (2, .int (iI (z))), (3, .int (iI (x))), (4, .int (iI (lf)))] [.int (iI (v_6))] w := by
              intro v_6 hv_6
              refine j_istore X (i := 14) dL_calibrates_158 (by decide) (q := 160) rfl (lv' := [(14, .int (iI (v_6))), (13, .int (iI (v_5))), (12, .int (iI (v_4))), (11, .int (iI (v_3))), (10, .int (iI (v_2))), (9, .int (iI (S 13 z))), (8, .int (iI (S 16 z))), (7, .int (iI (S 6 0))), (6, .int (iI (sk))), (5, .int (iI (v_1))), (0, .ref (ad 0 0)), (1, .ref (o)), (2, .int (iI (z))), (3, .int (iI (x))), (4, .int (iI (lf)))]) (by first | rfl | simp [cat_rf, cat_i, cat_l, cat_r]) ?_
              refine j_aload_n X dL_calibrates_160 (q := 161) rfl 10 rfl ?_
              refine j_iload_n X dL_calibrates_161 (q := 162) rfl 12 rfl ?_
              refine j_iload_n X dL_calibrates_162 (q := 163) rfl 13 rfl ?_
              refine j_iload X dL_calibrates_163 (q := 165) rfl 14 rfl ?_
              refine j_callV X (As := [.int (iI (z)), .int (iI (x)), .int (iI (lf))]) (st := []) hC.cal rfl hcall sv_L_71 (by decide) rfl (by first | decide | exact Nat.le_of_ble_eq_true rfl) dL_calibrates_165 (by first | decide | exact ⟨by show _ ≤ (18 : Nat); omega, by show _ ≤ (120 : Nat); omega⟩) (fun _ _ hE => by exfalso; omega) ?_
              rintro v9 w2 ⟨-, rfl, ⟨ad2, hC2, had⟩, hF2⟩
              have ho2 := hF2 _ _ ho (by show (1 : Nat) ≠ 0; decide)
              have hA2 : TA n S2 g := ⟨hA.1, fun k a b => by rw [q14, q11, q12]; exact hA.2 k a b⟩
              rw [← had]
              refine j_st (st := [.int (iI (R9))]) ?_
              refine j_istore X (i := 15) dL_calibrates_168 (by decide) (q := 170) rfl (lv' := [(15, .int (iI (R9))), (14, .int (iI (v_6))), (13, .int (iI (v_5))), (12, .int (iI (v_4))), (11, .int (iI (v_3))), (10, .int (iI (v_2))), (9, .int (iI (S 13 z))), (8, .int (iI (S 16 z))), (7, .int (iI (S 6 0))), (6, .int (iI (sk))), (5, .int (iI (v_1))), (0, .ref (ad2 0 0)), (1, .ref (o)), (2, .int (iI (z))), (3, .int (iI (x))), (4, .int (iI (lf)))]) (by first | rfl | simp [cat_rf, cat_i, cat_l, cat_r]) ?_
              refine j_iload X dL_calibrates_170 (q := 172) rfl 0 rfl ?_
              have jn_v_7 : ∀ v_7 : Int, v_7 = R9 → J p l e (Rm 6 18 120) s m args below meth c (vx_MQ below (Qn D base (fun v w' => v = some (.int (iI 1)) ∧ LV base ca (ad2 0 0) o (cn + 1) w')) (Xn D base (fun _ _ => False)) args s 18 120 (fun q => base ≤ q)) D base 17 7 54 183 [(15, .int (iI (R9))), (14, .int (iI (v_6))), (13, .int (iI (v_5))), (12, .int (iI (v_4))), (11, .int (iI (v_3))), (10, .int (iI (v_2))), (9, .int (iI (S 13 z))), (8, .int (iI (S 16 z))), (7, .int (iI (S 6 0))), (6, .int (iI (sk))), (5, .int (iI (v_1))), (0, .ref (ad2 0 0)), (1, .ref (o)), (2, .int (iI (z))), (3, .int (iI (x))), (4, .int (iI (lf)))] [.int (iI (v_7)), .int (iI (R9))] w2 := by
                intro v_7 hv_7
                refine j_icmp_ne X (tgt := 256) dL_calibrates_183 (by decide) (q := 186) rfl (by omega) (by omega) (fun c_183 => ?_) (fun c_183 => ?_)
                · skip
                  exfalso; omega
                · skip
                  refine j_aload_n X dL_calibrates_186 (q := 187) rfl 11 rfl ?_
                  refine j_callV X (As := []) (st := []) hC2.cal rfl (c_X3_calledBack hlt hC2 hI2 ) sv_L_65 (by decide) rfl (by first | decide | exact Nat.le_of_ble_eq_true rfl | simp [cat_rf, cat_i, cat_l, cat_r]) dL_calibrates_187 (by first | decide | exact ⟨by show _ ≤ (18 : Nat); omega, by show _ ≤ (120 : Nat); omega⟩) (fun _ _ hE => hE.elim) ?_
                  rintro v9 w9 ⟨rfl, rfl⟩
                  refine j_st (st := [.int (iI (S2 6 0))]) ?_
                  refine j_iload X dL_calibrates_190 (q := 192) rfl 8 rfl ?_
                  refine j_iload X dL_calibrates_192 (q := 194) rfl 0 rfl ?_
                  refine j_iadd X dL_calibrates_194 (q := 195) rfl ?_
                  refine j_icmp_ne X (tgt := 256) dL_calibrates_195 (by decide) (q := 198) rfl (by omega) (by omega) (fun c_195 => ?_) (fun c_195 => ?_)
                  · skip
                    exfalso; omega
                  · skip
                    refine j_aload_n X dL_calibrates_198 (q := 199) rfl 11 rfl ?_
                    refine j_iload_n X dL_calibrates_199 (q := 200) rfl 13 rfl ?_
                    refine j_callV X (As := [.int (iI (z))]) (st := []) hC2.cal rfl (c_X3_failures hlt hC2 hI2 z (by omega)) sv_L_30 (by decide) rfl (by first | decide | exact Nat.le_of_ble_eq_true rfl | simp [cat_rf, cat_i, cat_l, cat_r]) dL_calibrates_200 (by first | decide | exact ⟨by show _ ≤ (18 : Nat); omega, by show _ ≤ (120 : Nat); omega⟩) (fun _ _ hE => by exfalso; omega) ?_
                    rintro v9 w9 ⟨-, rfl, rfl⟩
                    refine j_st (st := [.int (iI (S2 16 z))]) ?_
                    refine j_iload X dL_calibrates_203 (q := 205) rfl 7 rfl ?_
                    have jn_v_8 : ∀ v_8 : Int, ((0 ≤ S 15 z ∧ S 11 z < iabs x) ∧ v_8 = 1) ∨ (¬ (0 ≤ S 15 z ∧ S 11 z < iabs x) ∧ v_8 = 0) → J p l e (Rm 6 18 120) s m args below meth c (vx_MQ below (Qn D base (fun v w' => v = some (.int (iI 1)) ∧ LV base ca (ad2 0 0) o (cn + 1) w')) (Xn D base (fun _ _ => False)) args s 18 120 (fun q => base ≤ q)) D base 17 8 60 215 [(15, .int (iI (R9))), (14, .int (iI (v_6))), (13, .int (iI (v_5))), (12, .int (iI (v_4))), (11, .int (iI (v_3))), (10, .int (iI (v_2))), (9, .int (iI (S 13 z))), (8, .int (iI (S 16 z))), (7, .int (iI (S 6 0))), (6, .int (iI (sk))), (5, .int (iI (v_1))), (0, .ref (ad2 0 0)), (1, .ref (o)), (2, .int (iI (z))), (3, .int (iI (x))), (4, .int (iI (lf)))] [.int (iI (v_8)), .int (iI (S 16 z)), .int (iI (S2 16 z))] w2 := by
                      intro v_8 hv_8
                      refine j_iadd X dL_calibrates_215 (q := 216) rfl ?_
                      refine j_icmp_ne X (tgt := 256) dL_calibrates_216 (by decide) (q := 219) rfl (by omega) (by omega) (fun c_216 => ?_) (fun c_216 => ?_)
                      · skip
                        exfalso; omega
                      · skip
                        refine j_aload_n X dL_calibrates_219 (q := 220) rfl 11 rfl ?_
                        refine j_iload_n X dL_calibrates_220 (q := 221) rfl 13 rfl ?_
                        refine j_callV X (As := [.int (iI (z))]) (st := []) hC2.cal rfl (c_X3_intervalOf hlt hC2 hI2 z (by omega)) sv_L_68 (by decide) rfl (by first | decide | exact Nat.le_of_ble_eq_true rfl | simp [cat_rf, cat_i, cat_l, cat_r]) dL_calibrates_221 (by first | decide | exact ⟨by show _ ≤ (18 : Nat); omega, by show _ ≤ (120 : Nat); omega⟩) (fun _ _ hE => by exfalso; omega) ?_
                        rintro v9 w9 ⟨-, rfl, rfl⟩
                        refine j_st (st := [.int (iI (S2 13 z))]) ?_
                        refine j_iload X dL_calibrates_224 (q := 226) rfl 1 rfl ?_
                        refine j_icmp_ne X (tgt := 256) dL_calibrates_226 (by decide) (q := 229) rfl (by omega) (by omega) (fun c_226 => ?_) (fun c_226 => ?_)
                        · skip
                          exfalso; omega
                        · skip
                          refine j_aload_n X dL_calibrates_229 (q := 230) rfl 11 rfl ?_
                          refine j_iload_n X dL_calibrates_230 (q := 231) rfl 13 rfl ?_
                          refine j_callV X (As := [.int (iI (z))]) (st := []) hC2.cal rfl (c_X3_dueOf hlt hC2 hI2 z (by omega)) sv_L_22 (by decide) rfl (by first | decide | exact Nat.le_of_ble_eq_true rfl | simp [cat_rf, cat_i, cat_l, cat_r]) dL_calibrates_231 (by first | decide | exact ⟨by show _ ≤ (18 : Nat); omega, by show _ ≤ (120 : Nat); omega⟩) (fun _ _ hE => by exfalso; omega) ?_
                          rintro v9 w9 ⟨-, rfl, rfl⟩
                          refine j_st (st := [.int (iI (if S2 15 z < 0 then -1 else S2 21 (S2 15 z) + S2 13 z))]) ?_
                          obtain ⟨du3, hdu3, hdu4⟩ := du_spec hI2 hz
                          rw [← hdu3]
                          refine j_aload_n X dL_calibrates_234 (q := 235) rfl 11 rfl ?_
                          refine j_callV X (As := []) (st := [.int (iI (du3))]) hC2.cal rfl (c_X3_today hlt hC2 hI2 ) sv_L_43 (by decide) rfl (by first | decide | exact Nat.le_of_ble_eq_true rfl | simp [cat_rf, cat_i, cat_l, cat_r]) dL_calibrates_235 (by first | decide | exact ⟨by show _ ≤ (18 : Nat); omega, by show _ ≤ (120 : Nat); omega⟩) (fun _ _ hE => hE.elim) ?_
                          rintro v9 w9 ⟨rfl, rfl⟩
                          refine j_st (st := [.int (iI (S2 7 0)), .int (iI (du3))]) ?_
                          refine j_iload X dL_calibrates_238 (q := 240) rfl 1 rfl ?_
                          refine j_iadd X dL_calibrates_240 (q := 241) rfl ?_
                          refine j_icmp_ne X (tgt := 256) dL_calibrates_241 (by decide) (q := 244) rfl (by omega) (by omega) (fun c_241 => ?_) (fun c_241 => ?_)
                          · skip
                            exfalso; omega
                          · skip
                            refine j_aload_n X dL_calibrates_244 (q := 245) rfl 11 rfl ?_
                            refine j_iload_n X dL_calibrates_245 (q := 246) rfl 13 rfl ?_
                            refine j_callV X (As := [.int (iI (z))]) (st := []) hC2.cal rfl (c_X3_isSuspect hlt hC2 hI2 z (by omega)) sv_L_26 (by decide) rfl (by first | decide | exact Nat.le_of_ble_eq_true rfl | simp [cat_rf, cat_i, cat_l, cat_r]) dL_calibrates_246 (by first | decide | exact ⟨by show _ ≤ (18 : Nat); omega, by show _ ≤ (120 : Nat); omega⟩) (fun _ _ hE => by exfalso; omega) ?_
                            rintro v9 w9 ⟨-, rfl, rfl⟩
                            refine j_st (st := [.int (iI (tf (0 ≤ S2 15 z ∧ S2 26 (S2 15 z) = 1)))]) ?_
                            rw [show (tf (0 ≤ S2 15 z ∧ S2 26 (S2 15 z) = 1) : Int) = 0 from tf_f (fun q => by rw [q15, q26] at q; omega)]
                            refine j_if_ne X (tgt := 256) dL_calibrates_249 (by decide) (q := 252) rfl (by omega) (fun c_249 => ?_) (fun c_249 => ?_)
                            · skip
                              exfalso; omega
                            · skip
                              refine j_iconst X (a := 1) dL_calibrates_252 (q := 253) rfl ?_
                              refine j_goto X (tgt := 257) dL_calibrates_253 (by decide) ?_
                              refine j_istore X (i := 16) dL_calibrates_257 (by decide) (q := 259) rfl (lv' := [(16, .int (iI (1))), (15, .int (iI (R9))), (14, .int (iI (v_6))), (13, .int (iI (v_5))), (12, .int (iI (v_4))), (11, .int (iI (v_3))), (10, .int (iI (v_2))), (9, .int (iI (S 13 z))), (8, .int (iI (S 16 z))), (7, .int (iI (S 6 0))), (6, .int (iI (sk))), (5, .int (iI (v_1))), (0, .ref (ad2 0 0)), (1, .ref (o)), (2, .int (iI (z))), (3, .int (iI (x))), (4, .int (iI (lf)))]) (by first | rfl | simp [cat_rf, cat_i, cat_l, cat_r]) ?_
                              refine j_iload X dL_calibrates_259 (q := 261) rfl 0 rfl ?_
                              refine j_if_eq X (tgt := 329) dL_calibrates_261 (by decide) (q := 264) rfl (by omega) (fun c_261 => ?_) (fun c_261 => ?_)
                              · skip
                                exfalso; omega
                              · skip
                                refine j_aload_n X dL_calibrates_264 (q := 265) rfl 12 rfl ?_
                                refine j_iload_n X dL_calibrates_265 (q := 266) rfl 14 rfl ?_
                                refine j_callV X (As := [.int (iI (z))]) (st := []) hC2.cal rfl (c_X3_atStake hlt hC2 hI2 z (by omega)) sv_L_56 (by decide) rfl (by first | decide | exact Nat.le_of_ble_eq_true rfl | simp [cat_rf, cat_i, cat_l, cat_r]) dL_calibrates_266 (by first | decide | exact ⟨by show _ ≤ (18 : Nat); omega, by show _ ≤ (120 : Nat); omega⟩) (fun _ _ hE => by exfalso; omega) ?_
                                rintro v9 w9 ⟨-, rfl, rfl⟩
                                refine j_st (st := [.int (iI (if S2 15 z < 0 then 0 else sm (stk S2 (S2 15 z)) nm.toNat))]) ?_
                                rw [show (if S2 15 z < 0 then 0 else sm (stk S2 (S2 15 z)) nm.toNat : Int) = 0 from by rw [q15, if_neg (by omega), qst]]
                                refine j_if_ne X (tgt := 329) dL_calibrates_269 (by decide) (q := 272) rfl (by omega) (fun c_269 => ?_) (fun c_269 => ?_)
                                · skip
                                  exfalso; omega
                                · skip
                                  refine j_aload_n X dL_calibrates_272 (q := 273) rfl 12 rfl ?_
                                  refine j_iload_n X dL_calibrates_273 (q := 274) rfl 14 rfl ?_
                                  refine j_iconst X (a := 0) dL_calibrates_274 (q := 275) rfl ?_
                                  refine j_callV X (As := [.int (iI (z)), .int (iI (0))]) (st := []) hC2.cal rfl (c_X3_expected hlt hC2 hI2 z (by omega) 0 (by omega)) sv_L_75 (by decide) rfl (by first | decide | exact Nat.le_of_ble_eq_true rfl | simp [cat_rf, cat_i, cat_l, cat_r]) dL_calibrates_275 (by first | decide | exact ⟨by show _ ≤ (18 : Nat); omega, by show _ ≤ (120 : Nat); omega⟩) (fun _ _ hE => by exfalso; omega) ?_
                                  rintro v9 w9 ⟨-, rfl, rfl⟩
                                  refine j_st (st := [.long (iL (errS S2 z (S2 15 z) 0))]) ?_
                                  rw [show errS S2 z (S2 15 z) 0 = lf from by rw [q15, errS_0, q22]]
                                  refine j_iload X dL_calibrates_278 (q := 280) rfl 16 rfl ?_
                                  refine j_i2l X (by omega) dL_calibrates_280 (q := 281) rfl ?_
                                  refine j_lcmp X (by omega) (by omega) dL_calibrates_281 (q := 282) rfl ?_
                                  refine j_if_ne X (tgt := 329) dL_calibrates_282 (by decide) (q := 285) rfl (cmpI_r _ _) (fun c_282 => ?_) (fun c_282 => ?_)
                                  · skip
                                    exact absurd (cmpI_0.mpr rfl) c_282
                                  · skip
                                    refine j_aload_n X dL_calibrates_285 (q := 286) rfl 12 rfl ?_
                                    refine j_iload_n X dL_calibrates_286 (q := 287) rfl 14 rfl ?_
                                    refine j_callV X (As := [.int (iI (z))]) (st := []) hC2.cal rfl (c_X3_distrusted hlt hC2 hI2 z (by omega)) sv_L_33 (by decide) rfl (by first | decide | exact Nat.le_of_ble_eq_true rfl | simp [cat_rf, cat_i, cat_l, cat_r]) dL_calibrates_287 (by first | decide | exact ⟨by show _ ≤ (18 : Nat); omega, by show _ ≤ (120 : Nat); omega⟩) (fun _ _ hE => by exfalso; omega) ?_
                                    rintro v9 w9 ⟨-, rfl, rfl⟩
                                    refine j_st (st := [.int (iI (fof (S2 14) (inF S2) 12 z))]) ?_
                                    have jn_v_9 : ∀ v_9 : Int, (fof (S2 14) (inF S2) 12 z = -1 ∧ v_9 = 1) ∨ (fof (S2 14) (inF S2) 12 z ≠ -1 ∧ v_9 = 0) → J p l e (Rm 6 18 120) s m args below meth c (vx_MQ below (Qn D base (fun v w' => v = some (.int (iI 1)) ∧ LV base ca (ad2 0 0) o (cn + 1) w')) (Xn D base (fun _ _ => False)) args s 18 120 (fun q => base ≤ q)) D base 17 15 102 299 [(16, .int (iI (1))), (15, .int (iI (R9))), (14, .int (iI (v_6))), (13, .int (iI (v_5))), (12, .int (iI (v_4))), (11, .int (iI (v_3))), (10, .int (iI (v_2))), (9, .int (iI (S 13 z))), (8, .int (iI (S 16 z))), (7, .int (iI (S 6 0))), (6, .int (iI (sk))), (5, .int (iI (v_1))), (0, .ref (ad2 0 0)), (1, .ref (o)), (2, .int (iI (z))), (3, .int (iI (x))), (4, .int (iI (lf)))] [.int (iI (v_9))] w2 := by
                                      intro v_9 hv_9
                                      have hf14 : S2 14 z = -1 → fof (S2 14) (inF S2) 12 z = -1 := fun q => by rw [hff]; exact fof_n (by omega)
                                      have jn_v_10 : ∀ v_10 : Int, (fof (S2 14) (inF S2) 12 z = -1 ∧ v_10 = 1) ∨ (fof (S2 14) (inF S2) 12 z ≠ -1 ∧ v_10 = 0) → J p l e (Rm 6 18 120) s m args below meth c (vx_MQ below (Qn D base (fun v w' => v = some (.int (iI 1)) ∧ LV base ca (ad2 0 0) o (cn + 1) w')) (Xn D base (fun _ _ => False)) args s 18 120 (fun q => base ≤ q)) D base 17 16 108 322 [(16, .int (iI (1))), (15, .int (iI (R9))), (14, .int (iI (v_6))), (13, .int (iI (v_5))), (12, .int (iI (v_4))), (11, .int (iI (v_3))), (10, .int (iI (v_2))), (9, .int (iI (S 13 z))), (8, .int (iI (S 16 z))), (7, .int (iI (S 6 0))), (6, .int (iI (sk))), (5, .int (iI (v_1))), (0, .ref (ad2 0 0)), (1, .ref (o)), (2, .int (iI (z))), (3, .int (iI (x))), (4, .int (iI (lf)))] [.int (iI (v_10)), .int (iI (v_9))] w2 := by
                                        intro v_10 hv_10
                                        refine j_icmp_ne X (tgt := 329) dL_calibrates_322 (by decide) (q := 325) rfl (by omega) (by omega) (fun c_322 => ?_) (fun c_322 => ?_)
                                        · skip
                                          exfalso; omega
                                        · skip
                                          refine j_iconst X (a := 1) dL_calibrates_325 (q := 326) rfl ?_
                                          refine j_goto X (tgt := 330) dL_calibrates_326 (by decide) ?_
                                          exact j_zret X rfl (Or.inr rfl) dL_calibrates_330 (⟨rfl, n, nc + 1, nm, S2, T2, ad2, g, hS2, hC2, ho2, hA2, rfl⟩) (by first | decide | omega) (by first | decide | omega)
                                      refine j_aload_n X dL_calibrates_299 (q := 300) rfl 13 rfl ?_
                                      refine j_iload_n X dL_calibrates_300 (q := 301) rfl 14 rfl ?_
                                      refine j_tld X ho2 (by omega) dL_calibrates_301 (q := 302) rfl ?_
                                      rw [(hA2.2 z hz.1 hz.2).1]
                                      refine j_iconst X (a := -1) dL_calibrates_302 (q := 303) rfl ?_
                                      refine j_icmp_eq X (tgt := 317) dL_calibrates_303 (by decide) (q := 306) rfl (by omega) (by omega) (fun c_303 => ?_) (fun c_303 => ?_)
                                      · skip
                                        refine j_iconst X (a := 1) dL_calibrates_317 (q := 318) rfl ?_
                                        refine j_goto X (tgt := 322) dL_calibrates_318 (by decide) ?_
                                        exact j_widen (by omega) (by omega) (jn_v_10 _ (by omega))
                                      · skip
                                        refine j_aload_n X dL_calibrates_306 (q := 307) rfl 12 rfl ?_
                                        refine j_aload_n X dL_calibrates_307 (q := 308) rfl 13 rfl ?_
                                        refine j_iload_n X dL_calibrates_308 (q := 309) rfl 14 rfl ?_
                                        refine j_tld X ho2 (by omega) dL_calibrates_309 (q := 310) rfl ?_
                                        rw [(hA2.2 z hz.1 hz.2).1]
                                        have hz3 : 0 ≤ S2 14 z ∧ S2 14 z < n := by omega
                                        refine j_callV X (As := [.int (iI (S2 14 z))]) (st := [.int (iI (v_9))]) hC2.cal rfl (c_X3_distrusted hlt hC2 hI2 (S2 14 z) (by omega)) sv_L_33 (by decide) rfl (by first | decide | exact Nat.le_of_ble_eq_true rfl | simp [cat_rf, cat_i, cat_l, cat_r]) dL_calibrates_310 (by first | decide | exact ⟨by show _ ≤ (18 : Nat); omega, by show _ ≤ (120 : Nat); omega⟩) (fun _ _ hE => by exfalso; omega) ?_
                                        rintro v9 w9 ⟨-, rfl, rfl⟩
                                        refine j_st (st := [.int (iI (fof (S2 14) (inF S2) 12 (S2 14 z))), .int (iI (v_9))]) ?_
                                        rw [← hff]
                                        refine j_iconst X (a := -1) dL_calibrates_313 (q := 314) rfl ?_
                                        refine j_icmp_ne X (tgt := 321) dL_calibrates_314 (by decide) (q := 317) rfl (by omega) (by omega) (fun c_314 => ?_) (fun c_314 => ?_)
                                        · skip
                                          refine j_iconst X (a := 0) dL_calibrates_321 (q := 322) rfl ?_
                                          exact j_widen (by omega) (by omega) (jn_v_10 _ (by omega))
                                        · skip
                                          refine j_iconst X (a := 1) dL_calibrates_317 (q := 318) rfl ?_
                                          refine j_goto X (tgt := 322) dL_calibrates_318 (by decide) ?_
                                          exact j_widen (by omega) (by omega) (jn_v_10 _ (by omega))
                                    refine j_iconst X (a := -1) dL_calibrates_290 (q := 291) rfl ?_
                                    refine j_icmp_ne X (tgt := 298) dL_calibrates_291 (by decide) (q := 294) rfl (by omega) (by omega) (fun c_291 => ?_) (fun c_291 => ?_)
                                    · skip
                                      refine j_iconst X (a := 0) dL_calibrates_298 (q := 299) rfl ?_
                                      exact j_widen (by omega) (by omega) (jn_v_9 _ (by omega))
                                    · skip
                                      refine j_iconst X (a := 1) dL_calibrates_294 (q := 295) rfl ?_
                                      refine j_goto X (tgt := 299) dL_calibrates_295 (by decide) ?_
                                      exact j_widen (by omega) (by omega) (jn_v_9 _ (by omega))
                    refine j_iload X dL_calibrates_205 (q := 207) rfl 4 rfl ?_
                    refine j_if_eq X (tgt := 214) dL_calibrates_207 (by decide) (q := 210) rfl (by omega) (fun c_207 => ?_) (fun c_207 => ?_)
                    · skip
                      refine j_iconst X (a := 0) dL_calibrates_214 (q := 215) rfl ?_
                      exact j_widen (by omega) (by omega) (jn_v_8 _ (by omega))
                    · skip
                      refine j_iconst X (a := 1) dL_calibrates_210 (q := 211) rfl ?_
                      refine j_goto X (tgt := 215) dL_calibrates_211 (by decide) ?_
                      exact j_widen (by omega) (by omega) (jn_v_8 _ (by omega))
              refine j_iload X dL_calibrates_172 (q := 174) rfl 4 rfl ?_
              refine j_if_eq X (tgt := 182) dL_calibrates_174 (by decide) (q := 177) rfl (by omega) (fun c_174 => ?_) (fun c_174 => ?_)
              · skip
                refine j_iconst X (a := 0) dL_calibrates_182 (q := 183) rfl ?_
                exact j_widen (by omega) (by omega) (jn_v_7 _ (by omega))
              · skip
                refine j_iload X dL_calibrates_177 (q := 179) rfl 9 rfl ?_
                refine j_goto X (tgt := 183) dL_calibrates_179 (by decide) ?_
                exact j_widen (by omega) (by omega) (jn_v_7 _ (by omega))
            refine j_iload X dL_calibrates_123 (q := 125) rfl 2 rfl ?_
            refine j_if_eq X (tgt := 133) dL_calibrates_125 (by decide) (q := 128) rfl (by omega) (fun c_125 => ?_) (fun c_125 => ?_)
            · skip
              refine j_iload X dL_calibrates_133 (q := 135) rfl 8 rfl ?_
              refine j_if_eq X (tgt := 156) dL_calibrates_135 (by decide) (q := 138) rfl (by omega) (fun c_135 => ?_) (fun c_135 => ?_)
              · skip
                refine j_iload X dL_calibrates_156 (q := 158) rfl 4 rfl ?_
                exact j_widen (by omega) (by omega) (jn_v_6 _ (by omega))
              · skip
                refine j_iconst X (a := 2) dL_calibrates_138 (q := 139) rfl ?_
                refine j_iload X dL_calibrates_139 (q := 141) rfl 3 rfl ?_
                refine j_imul X dL_calibrates_141 (q := 142) rfl ?_
                refine j_aload_n X dL_calibrates_142 (q := 143) rfl 10 rfl ?_
                refine j_bipush X (a := 12) (by decide +kernel) dL_calibrates_143 (q := 145) rfl ?_
                refine j_iload_n X dL_calibrates_145 (q := 146) rfl 11 rfl ?_
                refine j_iadd X dL_calibrates_146 (q := 147) rfl ?_
                refine j_tld X ho (by omega) dL_calibrates_147 (q := 148) rfl ?_
                rw [(hA.2 z hz.1 hz.2).2.1]
                refine j_icmp_gt X (tgt := 156) dL_calibrates_148 (by decide) (q := 151) rfl (by omega) (by omega) (fun c_148 => ?_) (fun c_148 => ?_)
                · skip
                  refine j_iload X dL_calibrates_156 (q := 158) rfl 4 rfl ?_
                  exact j_widen (by omega) (by omega) (jn_v_6 _ (by omega))
                · skip
                  refine j_iload X dL_calibrates_151 (q := 153) rfl 1 rfl ?_
                  refine j_goto X (tgt := 158) dL_calibrates_153 (by decide) ?_
                  exact j_widen (by omega) (by omega) (jn_v_6 _ (by omega))
            · skip
              refine j_iload X dL_calibrates_128 (q := 130) rfl 0 rfl ?_
              refine j_goto X (tgt := 158) dL_calibrates_130 (by decide) ?_
              refine j_istore X (i := 14) dL_calibrates_158 (by decide) (q := 160) rfl (lv' := [(14, .int (iI (v_5))), (13, .int (iI (v_5))), (12, .int (iI (v_4))), (11, .int (iI (v_3))), (10, .int (iI (v_2))), (9, .int (iI (S 13 z))), (8, .int (iI (S 16 z))), (7, .int (iI (S 6 0))), (6, .int (iI (sk))), (5, .int (iI (v_1))), (0, .ref (ad 0 0)), (1, .ref (o)), (2, .int (iI (z))), (3, .int (iI (x))), (4, .int (iI (lf)))]) (by first | rfl | simp [cat_rf, cat_i, cat_l, cat_r]) ?_
              refine j_aload_n X dL_calibrates_160 (q := 161) rfl 10 rfl ?_
              refine j_iload_n X dL_calibrates_161 (q := 162) rfl 12 rfl ?_
              refine j_iload_n X dL_calibrates_162 (q := 163) rfl 13 rfl ?_
              refine j_iload X dL_calibrates_163 (q := 165) rfl 14 rfl ?_
              refine j_callV X (As := [.int (iI (z)), .int (iI (x)), .int (iI (lf))]) (st := []) hC.cal rfl hcall sv_L_71 (by decide) rfl (by first | decide | exact Nat.le_of_ble_eq_true rfl) dL_calibrates_165 (by first | decide | exact ⟨by show _ ≤ (18 : Nat); omega, by show _ ≤ (120 : Nat); omega⟩) (fun _ _ hE => by exfalso; omega) ?_
              rintro v9 w2 ⟨-, rfl, ⟨ad2, hC2, had⟩, hF2⟩
              have ho2 := hF2 _ _ ho (by show (1 : Nat) ≠ 0; decide)
              have hA2 : TA n S2 g := ⟨hA.1, fun k a b => by rw [q14, q11, q12]; exact hA.2 k a b⟩
              rw [← had]
              refine j_st (st := [.int (iI (R9))]) ?_
              refine j_istore X (i := 15) dL_calibrates_168 (by decide) (q := 170) rfl (lv' := [(15, .int (iI (R9))), (14, .int (iI (v_5))), (13, .int (iI (v_5))), (12, .int (iI (v_4))), (11, .int (iI (v_3))), (10, .int (iI (v_2))), (9, .int (iI (S 13 z))), (8, .int (iI (S 16 z))), (7, .int (iI (S 6 0))), (6, .int (iI (sk))), (5, .int (iI (v_1))), (0, .ref (ad2 0 0)), (1, .ref (o)), (2, .int (iI (z))), (3, .int (iI (x))), (4, .int (iI (lf)))]) (by first | rfl | simp [cat_rf, cat_i, cat_l, cat_r]) ?_
              refine j_iload X dL_calibrates_170 (q := 172) rfl 0 rfl ?_
              have jn_v_11 : ∀ v_11 : Int, v_11 = R9 → J p l e (Rm 6 18 120) s m args below meth c (vx_MQ below (Qn D base (fun v w' => v = some (.int (iI 1)) ∧ LV base ca (ad2 0 0) o (cn + 1) w')) (Xn D base (fun _ _ => False)) args s 18 120 (fun q => base ≤ q)) D base 17 7 54 183 [(15, .int (iI (R9))), (14, .int (iI (v_5))), (13, .int (iI (v_5))), (12, .int (iI (v_4))), (11, .int (iI (v_3))), (10, .int (iI (v_2))), (9, .int (iI (S 13 z))), (8, .int (iI (S 16 z))), (7, .int (iI (S 6 0))), (6, .int (iI (sk))), (5, .int (iI (v_1))), (0, .ref (ad2 0 0)), (1, .ref (o)), (2, .int (iI (z))), (3, .int (iI (x))), (4, .int (iI (lf)))] [.int (iI (v_11)), .int (iI (R9))] w2 := by
                intro v_11 hv_11
                refine j_icmp_ne X (tgt := 256) dL_calibrates_183 (by decide) (q := 186) rfl (by omega) (by omega) (fun c_183 => ?_) (fun c_183 => ?_)
                · skip
                  exfalso; omega
                · skip
                  refine j_aload_n X dL_calibrates_186 (q := 187) rfl 11 rfl ?_
                  refine j_callV X (As := []) (st := []) hC2.cal rfl (c_X3_calledBack hlt hC2 hI2 ) sv_L_65 (by decide) rfl (by first | decide | exact Nat.le_of_ble_eq_true rfl | simp [cat_rf, cat_i, cat_l, cat_r]) dL_calibrates_187 (by first | decide | exact ⟨by show _ ≤ (18 : Nat); omega, by show _ ≤ (120 : Nat); omega⟩) (fun _ _ hE => hE.elim) ?_
                  rintro v9 w9 ⟨rfl, rfl⟩
                  refine j_st (st := [.int (iI (S2 6 0))]) ?_
                  refine j_iload X dL_calibrates_190 (q := 192) rfl 8 rfl ?_
                  refine j_iload X dL_calibrates_192 (q := 194) rfl 0 rfl ?_
                  refine j_iadd X dL_calibrates_194 (q := 195) rfl ?_
                  refine j_icmp_ne X (tgt := 256) dL_calibrates_195 (by decide) (q := 198) rfl (by omega) (by omega) (fun c_195 => ?_) (fun c_195 => ?_)
                  · skip
                    exfalso; omega
                  · skip
                    refine j_aload_n X dL_calibrates_198 (q := 199) rfl 11 rfl ?_
                    refine j_iload_n X dL_calibrates_199 (q := 200) rfl 13 rfl ?_
                    refine j_callV X (As := [.int (iI (z))]) (st := []) hC2.cal rfl (c_X3_failures hlt hC2 hI2 z (by omega)) sv_L_30 (by decide) rfl (by first | decide | exact Nat.le_of_ble_eq_true rfl | simp [cat_rf, cat_i, cat_l, cat_r]) dL_calibrates_200 (by first | decide | exact ⟨by show _ ≤ (18 : Nat); omega, by show _ ≤ (120 : Nat); omega⟩) (fun _ _ hE => by exfalso; omega) ?_
                    rintro v9 w9 ⟨-, rfl, rfl⟩
                    refine j_st (st := [.int (iI (S2 16 z))]) ?_
                    refine j_iload X dL_calibrates_203 (q := 205) rfl 7 rfl ?_
                    have jn_v_12 : ∀ v_12 : Int, ((0 ≤ S 15 z ∧ S 11 z < iabs x) ∧ v_12 = 1) ∨ (¬ (0 ≤ S 15 z ∧ S 11 z < iabs x) ∧ v_12 = 0) → J p l e (Rm 6 18 120) s m args below meth c (vx_MQ below (Qn D base (fun v w' => v = some (.int (iI 1)) ∧ LV base ca (ad2 0 0) o (cn + 1) w')) (Xn D base (fun _ _ => False)) args s 18 120 (fun q => base ≤ q)) D base 17 8 60 215 [(15, .int (iI (R9))), (14, .int (iI (v_5))), (13, .int (iI (v_5))), (12, .int (iI (v_4))), (11, .int (iI (v_3))), (10, .int (iI (v_2))), (9, .int (iI (S 13 z))), (8, .int (iI (S 16 z))), (7, .int (iI (S 6 0))), (6, .int (iI (sk))), (5, .int (iI (v_1))), (0, .ref (ad2 0 0)), (1, .ref (o)), (2, .int (iI (z))), (3, .int (iI (x))), (4, .int (iI (lf)))] [.int (iI (v_12)), .int (iI (S 16 z)), .int (iI (S2 16 z))] w2 := by
                      intro v_12 hv_12
                      refine j_iadd X dL_calibrates_215 (q := 216) rfl ?_
                      refine j_icmp_ne X (tgt := 256) dL_calibrates_216 (by decide) (q := 219) rfl (by omega) (by omega) (fun c_216 => ?_) (fun c_216 => ?_)
                      · skip
                        exfalso; omega
                      · skip
                        refine j_aload_n X dL_calibrates_219 (q := 220) rfl 11 rfl ?_
                        refine j_iload_n X dL_calibrates_220 (q := 221) rfl 13 rfl ?_
                        refine j_callV X (As := [.int (iI (z))]) (st := []) hC2.cal rfl (c_X3_intervalOf hlt hC2 hI2 z (by omega)) sv_L_68 (by decide) rfl (by first | decide | exact Nat.le_of_ble_eq_true rfl | simp [cat_rf, cat_i, cat_l, cat_r]) dL_calibrates_221 (by first | decide | exact ⟨by show _ ≤ (18 : Nat); omega, by show _ ≤ (120 : Nat); omega⟩) (fun _ _ hE => by exfalso; omega) ?_
                        rintro v9 w9 ⟨-, rfl, rfl⟩
                        refine j_st (st := [.int (iI (S2 13 z))]) ?_
                        refine j_iload X dL_calibrates_224 (q := 226) rfl 1 rfl ?_
                        refine j_icmp_ne X (tgt := 256) dL_calibrates_226 (by decide) (q := 229) rfl (by omega) (by omega) (fun c_226 => ?_) (fun c_226 => ?_)
                        · skip
                          exfalso; omega
                        · skip
                          refine j_aload_n X dL_calibrates_229 (q := 230) rfl 11 rfl ?_
                          refine j_iload_n X dL_calibrates_230 (q := 231) rfl 13 rfl ?_
                          refine j_callV X (As := [.int (iI (z))]) (st := []) hC2.cal rfl (c_X3_dueOf hlt hC2 hI2 z (by omega)) sv_L_22 (by decide) rfl (by first | decide | exact Nat.le_of_ble_eq_true rfl | simp [cat_rf, cat_i, cat_l, cat_r]) dL_calibrates_231 (by first | decide | exact ⟨by show _ ≤ (18 : Nat); omega, by show _ ≤ (120 : Nat); omega⟩) (fun _ _ hE => by exfalso; omega) ?_
                          rintro v9 w9 ⟨-, rfl, rfl⟩
                          refine j_st (st := [.int (iI (if S2 15 z < 0 then -1 else S2 21 (S2 15 z) + S2 13 z))]) ?_
                          obtain ⟨du3, hdu3, hdu4⟩ := du_spec hI2 hz
                          rw [← hdu3]
                          refine j_aload_n X dL_calibrates_234 (q := 235) rfl 11 rfl ?_
                          refine j_callV X (As := []) (st := [.int (iI (du3))]) hC2.cal rfl (c_X3_today hlt hC2 hI2 ) sv_L_43 (by decide) rfl (by first | decide | exact Nat.le_of_ble_eq_true rfl | simp [cat_rf, cat_i, cat_l, cat_r]) dL_calibrates_235 (by first | decide | exact ⟨by show _ ≤ (18 : Nat); omega, by show _ ≤ (120 : Nat); omega⟩) (fun _ _ hE => hE.elim) ?_
                          rintro v9 w9 ⟨rfl, rfl⟩
                          refine j_st (st := [.int (iI (S2 7 0)), .int (iI (du3))]) ?_
                          refine j_iload X dL_calibrates_238 (q := 240) rfl 1 rfl ?_
                          refine j_iadd X dL_calibrates_240 (q := 241) rfl ?_
                          refine j_icmp_ne X (tgt := 256) dL_calibrates_241 (by decide) (q := 244) rfl (by omega) (by omega) (fun c_241 => ?_) (fun c_241 => ?_)
                          · skip
                            exfalso; omega
                          · skip
                            refine j_aload_n X dL_calibrates_244 (q := 245) rfl 11 rfl ?_
                            refine j_iload_n X dL_calibrates_245 (q := 246) rfl 13 rfl ?_
                            refine j_callV X (As := [.int (iI (z))]) (st := []) hC2.cal rfl (c_X3_isSuspect hlt hC2 hI2 z (by omega)) sv_L_26 (by decide) rfl (by first | decide | exact Nat.le_of_ble_eq_true rfl | simp [cat_rf, cat_i, cat_l, cat_r]) dL_calibrates_246 (by first | decide | exact ⟨by show _ ≤ (18 : Nat); omega, by show _ ≤ (120 : Nat); omega⟩) (fun _ _ hE => by exfalso; omega) ?_
                            rintro v9 w9 ⟨-, rfl, rfl⟩
                            refine j_st (st := [.int (iI (tf (0 ≤ S2 15 z ∧ S2 26 (S2 15 z) = 1)))]) ?_
                            rw [show (tf (0 ≤ S2 15 z ∧ S2 26 (S2 15 z) = 1) : Int) = 0 from tf_f (fun q => by rw [q15, q26] at q; omega)]
                            refine j_if_ne X (tgt := 256) dL_calibrates_249 (by decide) (q := 252) rfl (by omega) (fun c_249 => ?_) (fun c_249 => ?_)
                            · skip
                              exfalso; omega
                            · skip
                              refine j_iconst X (a := 1) dL_calibrates_252 (q := 253) rfl ?_
                              refine j_goto X (tgt := 257) dL_calibrates_253 (by decide) ?_
                              refine j_istore X (i := 16) dL_calibrates_257 (by decide) (q := 259) rfl (lv' := [(16, .int (iI (1))), (15, .int (iI (R9))), (14, .int (iI (v_5))), (13, .int (iI (v_5))), (12, .int (iI (v_4))), (11, .int (iI (v_3))), (10, .int (iI (v_2))), (9, .int (iI (S 13 z))), (8, .int (iI (S 16 z))), (7, .int (iI (S 6 0))), (6, .int (iI (sk))), (5, .int (iI (v_1))), (0, .ref (ad2 0 0)), (1, .ref (o)), (2, .int (iI (z))), (3, .int (iI (x))), (4, .int (iI (lf)))]) (by first | rfl | simp [cat_rf, cat_i, cat_l, cat_r]) ?_
                              refine j_iload X dL_calibrates_259 (q := 261) rfl 0 rfl ?_
                              refine j_if_eq X (tgt := 329) dL_calibrates_261 (by decide) (q := 264) rfl (by omega) (fun c_261 => ?_) (fun c_261 => ?_)
                              · skip
                                exfalso; omega
                              · skip
                                refine j_aload_n X dL_calibrates_264 (q := 265) rfl 12 rfl ?_
                                refine j_iload_n X dL_calibrates_265 (q := 266) rfl 14 rfl ?_
                                refine j_callV X (As := [.int (iI (z))]) (st := []) hC2.cal rfl (c_X3_atStake hlt hC2 hI2 z (by omega)) sv_L_56 (by decide) rfl (by first | decide | exact Nat.le_of_ble_eq_true rfl | simp [cat_rf, cat_i, cat_l, cat_r]) dL_calibrates_266 (by first | decide | exact ⟨by show _ ≤ (18 : Nat); omega, by show _ ≤ (120 : Nat); omega⟩) (fun _ _ hE => by exfalso; omega) ?_
                                rintro v9 w9 ⟨-, rfl, rfl⟩
                                refine j_st (st := [.int (iI (if S2 15 z < 0 then 0 else sm (stk S2 (S2 15 z)) nm.toNat))]) ?_
                                rw [show (if S2 15 z < 0 then 0 else sm (stk S2 (S2 15 z)) nm.toNat : Int) = 0 from by rw [q15, if_neg (by omega), qst]]
                                refine j_if_ne X (tgt := 329) dL_calibrates_269 (by decide) (q := 272) rfl (by omega) (fun c_269 => ?_) (fun c_269 => ?_)
                                · skip
                                  exfalso; omega
                                · skip
                                  refine j_aload_n X dL_calibrates_272 (q := 273) rfl 12 rfl ?_
                                  refine j_iload_n X dL_calibrates_273 (q := 274) rfl 14 rfl ?_
                                  refine j_iconst X (a := 0) dL_calibrates_274 (q := 275) rfl ?_
                                  refine j_callV X (As := [.int (iI (z)), .int (iI (0))]) (st := []) hC2.cal rfl (c_X3_expected hlt hC2 hI2 z (by omega) 0 (by omega)) sv_L_75 (by decide) rfl (by first | decide | exact Nat.le_of_ble_eq_true rfl | simp [cat_rf, cat_i, cat_l, cat_r]) dL_calibrates_275 (by first | decide | exact ⟨by show _ ≤ (18 : Nat); omega, by show _ ≤ (120 : Nat); omega⟩) (fun _ _ hE => by exfalso; omega) ?_
                                  rintro v9 w9 ⟨-, rfl, rfl⟩
                                  refine j_st (st := [.long (iL (errS S2 z (S2 15 z) 0))]) ?_
                                  rw [show errS S2 z (S2 15 z) 0 = lf from by rw [q15, errS_0, q22]]
                                  refine j_iload X dL_calibrates_278 (q := 280) rfl 16 rfl ?_
                                  refine j_i2l X (by omega) dL_calibrates_280 (q := 281) rfl ?_
                                  refine j_lcmp X (by omega) (by omega) dL_calibrates_281 (q := 282) rfl ?_
                                  refine j_if_ne X (tgt := 329) dL_calibrates_282 (by decide) (q := 285) rfl (cmpI_r _ _) (fun c_282 => ?_) (fun c_282 => ?_)
                                  · skip
                                    exact absurd (cmpI_0.mpr rfl) c_282
                                  · skip
                                    refine j_aload_n X dL_calibrates_285 (q := 286) rfl 12 rfl ?_
                                    refine j_iload_n X dL_calibrates_286 (q := 287) rfl 14 rfl ?_
                                    refine j_callV X (As := [.int (iI (z))]) (st := []) hC2.cal rfl (c_X3_distrusted hlt hC2 hI2 z (by omega)) sv_L_33 (by decide) rfl (by first | decide | exact Nat.le_of_ble_eq_true rfl | simp [cat_rf, cat_i, cat_l, cat_r]) dL_calibrates_287 (by first | decide | exact ⟨by show _ ≤ (18 : Nat); omega, by show _ ≤ (120 : Nat); omega⟩) (fun _ _ hE => by exfalso; omega) ?_
                                    rintro v9 w9 ⟨-, rfl, rfl⟩
                                    refine j_st (st := [.int (iI (fof (S2 14) (inF S2) 12 z))]) ?_
                                    have jn_v_13 : ∀ v_13 : Int, (fof (S2 14) (inF S2) 12 z = -1 ∧ v_13 = 1) ∨ (fof (S2 14) (inF S2) 12 z ≠ -1 ∧ v_13 = 0) → J p l e (Rm 6 18 120) s m args below meth c (vx_MQ below (Qn D base (fun v w' => v = some (.int (iI 1)) ∧ LV base ca (ad2 0 0) o (cn + 1) w')) (Xn D base (fun _ _ => False)) args s 18 120 (fun q => base ≤ q)) D base 17 15 102 299 [(16, .int (iI (1))), (15, .int (iI (R9))), (14, .int (iI (v_5))), (13, .int (iI (v_5))), (12, .int (iI (v_4))), (11, .int (iI (v_3))), (10, .int (iI (v_2))), (9, .int (iI (S 13 z))), (8, .int (iI (S 16 z))), (7, .int (iI (S 6 0))), (6, .int (iI (sk))), (5, .int (iI (v_1))), (0, .ref (ad2 0 0)), (1, .ref (o)), (2, .int (iI (z))), (3, .int (iI (x))), (4, .int (iI (lf)))] [.int (iI (v_13))] w2 := by
                                      intro v_13 hv_13
                                      have hf14 : S2 14 z = -1 → fof (S2 14) (inF S2) 12 z = -1 := fun q => by rw [hff]; exact fof_n (by omega)
                                      have jn_v_14 : ∀ v_14 : Int, (fof (S2 14) (inF S2) 12 z = -1 ∧ v_14 = 1) ∨ (fof (S2 14) (inF S2) 12 z ≠ -1 ∧ v_14 = 0) → J p l e (Rm 6 18 120) s m args below meth c (vx_MQ below (Qn D base (fun v w' => v = some (.int (iI 1)) ∧ LV base ca (ad2 0 0) o (cn + 1) w')) (Xn D base (fun _ _ => False)) args s 18 120 (fun q => base ≤ q)) D base 17 16 108 322 [(16, .int (iI (1))), (15, .int (iI (R9))), (14, .int (iI (v_5))), (13, .int (iI (v_5))), (12, .int (iI (v_4))), (11, .int (iI (v_3))), (10, .int (iI (v_2))), (9, .int (iI (S 13 z))), (8, .int (iI (S 16 z))), (7, .int (iI (S 6 0))), (6, .int (iI (sk))), (5, .int (iI (v_1))), (0, .ref (ad2 0 0)), (1, .ref (o)), (2, .int (iI (z))), (3, .int (iI (x))), (4, .int (iI (lf)))] [.int (iI (v_14)), .int (iI (v_13))] w2 := by
                                        intro v_14 hv_14
                                        refine j_icmp_ne X (tgt := 329) dL_calibrates_322 (by decide) (q := 325) rfl (by omega) (by omega) (fun c_322 => ?_) (fun c_322 => ?_)
                                        · skip
                                          exfalso; omega
                                        · skip
                                          refine j_iconst X (a := 1) dL_calibrates_325 (q := 326) rfl ?_
                                          refine j_goto X (tgt := 330) dL_calibrates_326 (by decide) ?_
                                          exact j_zret X rfl (Or.inr rfl) dL_calibrates_330 (⟨rfl, n, nc + 1, nm, S2, T2, ad2, g, hS2, hC2, ho2, hA2, rfl⟩) (by first | decide | omega) (by first | decide | omega)
                                      refine j_aload_n X dL_calibrates_299 (q := 300) rfl 13 rfl ?_
                                      refine j_iload_n X dL_calibrates_300 (q := 301) rfl 14 rfl ?_
                                      refine j_tld X ho2 (by omega) dL_calibrates_301 (q := 302) rfl ?_
                                      rw [(hA2.2 z hz.1 hz.2).1]
                                      refine j_iconst X (a := -1) dL_calibrates_302 (q := 303) rfl ?_
                                      refine j_icmp_eq X (tgt := 317) dL_calibrates_303 (by decide) (q := 306) rfl (by omega) (by omega) (fun c_303 => ?_) (fun c_303 => ?_)
                                      · skip
                                        refine j_iconst X (a := 1) dL_calibrates_317 (q := 318) rfl ?_
                                        refine j_goto X (tgt := 322) dL_calibrates_318 (by decide) ?_
                                        exact j_widen (by omega) (by omega) (jn_v_14 _ (by omega))
                                      · skip
                                        refine j_aload_n X dL_calibrates_306 (q := 307) rfl 12 rfl ?_
                                        refine j_aload_n X dL_calibrates_307 (q := 308) rfl 13 rfl ?_
                                        refine j_iload_n X dL_calibrates_308 (q := 309) rfl 14 rfl ?_
                                        refine j_tld X ho2 (by omega) dL_calibrates_309 (q := 310) rfl ?_
                                        rw [(hA2.2 z hz.1 hz.2).1]
                                        have hz3 : 0 ≤ S2 14 z ∧ S2 14 z < n := by omega
                                        refine j_callV X (As := [.int (iI (S2 14 z))]) (st := [.int (iI (v_13))]) hC2.cal rfl (c_X3_distrusted hlt hC2 hI2 (S2 14 z) (by omega)) sv_L_33 (by decide) rfl (by first | decide | exact Nat.le_of_ble_eq_true rfl | simp [cat_rf, cat_i, cat_l, cat_r]) dL_calibrates_310 (by first | decide | exact ⟨by show _ ≤ (18 : Nat); omega, by show _ ≤ (120 : Nat); omega⟩) (fun _ _ hE => by exfalso; omega) ?_
                                        rintro v9 w9 ⟨-, rfl, rfl⟩
                                        refine j_st (st := [.int (iI (fof (S2 14) (inF S2) 12 (S2 14 z))), .int (iI (v_13))]) ?_
                                        rw [← hff]
                                        refine j_iconst X (a := -1) dL_calibrates_313 (q := 314) rfl ?_
                                        refine j_icmp_ne X (tgt := 321) dL_calibrates_314 (by decide) (q := 317) rfl (by omega) (by omega) (fun c_314 => ?_) (fun c_314 => ?_)
                                        · skip
                                          refine j_iconst X (a := 0) dL_calibrates_321 (q := 322) rfl ?_
                                          exact j_widen (by omega) (by omega) (jn_v_14 _ (by omega))
                                        · skip
                                          refine j_iconst X (a := 1) dL_calibrates_317 (q := 318) rfl ?_
                                          refine j_goto X (tgt := 322) dL_calibrates_318 (by decide) ?_
                                          exact j_widen (by omega) (by omega) (jn_v_14 _ (by omega))
                                    refine j_iconst X (a := -1) dL_calibrates_290 (q := 291) rfl ?_
                                    refine j_icmp_ne X (tgt := 298) dL_calibrates_291 (by decide) (q := 294) rfl (by omega) (by omega) (fun c_291 => ?_) (fun c_291 => ?_)
                                    · skip
                                      refine j_iconst X (a := 0) dL_calibrates_298 (q := 299) rfl ?_
                                      exact j_widen (by omega) (by omega) (jn_v_13 _ (by omega))
                                    · skip
                                      refine j_iconst X (a := 1) dL_calibrates_294 (q := 295) rfl ?_
                                      refine j_goto X (tgt := 299) dL_calibrates_295 (by decide) ?_
                                      exact j_widen (by omega) (by omega) (jn_v_13 _ (by omega))
                    refine j_iload X dL_calibrates_205 (q := 207) rfl 4 rfl ?_
                    refine j_if_eq X (tgt := 214) dL_calibrates_207 (by decide) (q := 210) rfl (by omega) (fun c_207 => ?_) (fun c_207 => ?_)
                    · skip
                      refine j_iconst X (a := 0) dL_calibrates_214 (q := 215) rfl ?_
                      exact j_widen (by omega) (by omega) (jn_v_12 _ (by omega))
                    · skip
                      refine j_iconst X (a := 1) dL_calibrates_210 (q := 211) rfl ?_
                      refine j_goto X (tgt := 215) dL_calibrates_211 (by decide) ?_
                      exact j_widen (by omega) (by omega) (jn_v_12 _ (by omega))
              refine j_iload X dL_calibrates_172 (q := 174) rfl 4 rfl ?_
              refine j_if_eq X (tgt := 182) dL_calibrates_174 (by decide) (q := 177) rfl (by omega) (fun c_174 => ?_) (fun c_174 => ?_)
              · skip
                refine j_iconst X (a := 0) dL_calibrates_182 (q := 183) rfl ?_
                exact j_widen (by omega) (by omega) (jn_v_11 _ (by omega))
              · skip
                refine j_iload X dL_calibrates_177 (q := 179) rfl 9 rfl ?_
                refine j_goto X (tgt := 183) dL_calibrates_179 (by decide) ?_
                exact j_widen (by omega) (by omega) (jn_v_11 _ (by omega))
          refine j_iload X dL_calibrates_106 (q := 108) rfl 3 rfl ?_
          refine j_iconst X (a := 2) dL_calibrates_108 (q := 109) rfl ?_
          refine j_idiv X (by omega) (by omega) dL_calibrates_109 (q := 110) rfl ?_
          refine j_if_ne X (tgt := 117) dL_calibrates_110 (by decide) (q := 113) rfl (by omega) (fun c_110 => ?_) (fun c_110 => ?_)
          · skip
            refine j_iload X dL_calibrates_117 (q := 119) rfl 3 rfl ?_
            refine j_iconst X (a := 2) dL_calibrates_119 (q := 120) rfl ?_
            refine j_idiv X (by omega) (by omega) dL_calibrates_120 (q := 121) rfl ?_
            exact j_widen (by omega) (by omega) (jn_v_5 _ (by omega))
          · skip
            refine j_iconst X (a := 1) dL_calibrates_113 (q := 114) rfl ?_
            refine j_goto X (tgt := 121) dL_calibrates_114 (by decide) ?_
            exact j_widen (by omega) (by omega) (jn_v_5 _ (by omega))
        refine j_iload X dL_calibrates_78 (q := 80) rfl 2 rfl ?_
        refine j_iload X dL_calibrates_80 (q := 82) rfl 2 rfl ?_
        refine j_iconst X (a := 4) dL_calibrates_82 (q := 83) rfl ?_
        refine j_idiv X (by omega) (by omega) dL_calibrates_83 (q := 84) rfl ?_
        refine j_iadd X dL_calibrates_84 (q := 85) rfl ?_
        refine j_sipush X (a := 999) (by decide +kernel) dL_calibrates_85 (q := 88) rfl ?_
        refine j_icmp_le X (tgt := 97) dL_calibrates_88 (by decide) (q := 91) rfl (by omega) (by omega) (fun c_88 => ?_) (fun c_88 => ?_)
        · skip
          refine j_iload X dL_calibrates_97 (q := 99) rfl 2 rfl ?_
          refine j_iload X dL_calibrates_99 (q := 101) rfl 2 rfl ?_
          refine j_iconst X (a := 4) dL_calibrates_101 (q := 102) rfl ?_
          refine j_idiv X (by omega) (by omega) dL_calibrates_102 (q := 103) rfl ?_
          refine j_iadd X dL_calibrates_103 (q := 104) rfl ?_
          exact j_widen (by omega) (by omega) (jn_v_4 _ (by omega))
        · skip
          refine j_sipush X (a := 999) (by decide +kernel) dL_calibrates_91 (q := 94) rfl ?_
          refine j_goto X (tgt := 104) dL_calibrates_94 (by decide) ?_
          exact j_widen (by omega) (by omega) (jn_v_4 _ (by omega))
      refine j_iload X dL_calibrates_55 (q := 57) rfl 5 rfl ?_
      refine j_if_eq X (tgt := 75) dL_calibrates_57 (by decide) (q := 60) rfl (by omega) (fun c_57 => ?_) (fun c_57 => ?_)
      · skip
        refine j_iconst X (a := 0) dL_calibrates_75 (q := 76) rfl ?_
        exact j_widen (by omega) (by omega) (jn_v_3 _ (by omega))
      · skip
        refine j_iload X dL_calibrates_60 (q := 62) rfl 0 rfl ?_
        refine j_aload_n X dL_calibrates_62 (q := 63) rfl 7 rfl ?_
        refine j_bipush X (a := 12) (by decide +kernel) dL_calibrates_63 (q := 65) rfl ?_
        refine j_iload_n X dL_calibrates_65 (q := 66) rfl 8 rfl ?_
        refine j_iadd X dL_calibrates_66 (q := 67) rfl ?_
        refine j_tld X ho (by omega) dL_calibrates_67 (q := 68) rfl ?_
        rw [(hA.2 z hz.1 hz.2).2.1]
        refine j_icmp_le X (tgt := 75) dL_calibrates_68 (by decide) (q := 71) rfl (by omega) (by omega) (fun c_68 => ?_) (fun c_68 => ?_)
        · skip
          refine j_iconst X (a := 0) dL_calibrates_75 (q := 76) rfl ?_
          exact j_widen (by omega) (by omega) (jn_v_3 _ (by omega))
        · skip
          refine j_iconst X (a := 1) dL_calibrates_71 (q := 72) rfl ?_
          refine j_goto X (tgt := 76) dL_calibrates_72 (by decide) ?_
          exact j_widen (by omega) (by omega) (jn_v_3 _ (by omega))
    refine j_iload_n X dL_calibrates_43 (q := 44) rfl 8 rfl ?_
    refine j_if_ge X (tgt := 52) dL_calibrates_44 (by decide) (q := 47) rfl (by omega) (fun c_44 => ?_) (fun c_44 => ?_)
    · skip
      refine j_iload_n X dL_calibrates_52 (q := 53) rfl 8 rfl ?_
      exact j_widen (by omega) (by omega) (jn_v_2 _ (by unfold iabs; split <;> omega))
    · skip
      refine j_iload_n X dL_calibrates_47 (q := 48) rfl 8 rfl ?_
      refine j_ineg X dL_calibrates_48 (q := 49) rfl ?_
      refine j_goto X (tgt := 53) dL_calibrates_49 (by decide) ?_
      exact j_widen (by omega) (by omega) (jn_v_2 _ (by unfold iabs; split <;> omega))
  refine j_iconst X (a := -1) dL_calibrates_5 (q := 6) rfl ?_
  refine j_icmp_eq X (tgt := 13) dL_calibrates_6 (by decide) (q := 9) rfl (by omega) (by omega) (fun c_6 => ?_) (fun c_6 => ?_)
  · skip
    refine j_iconst X (a := 0) dL_calibrates_13 (q := 14) rfl ?_
    exact j_widen (by omega) (by omega) (jn_v_1 _ (by omega))
  · skip
    refine j_iconst X (a := 1) dL_calibrates_9 (q := 10) rfl ?_
    refine j_goto X (tgt := 14) dL_calibrates_10 (by decide) ?_
    exact j_widen (by omega) (by omega) (jn_v_1 _ (by omega))
