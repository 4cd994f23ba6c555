set_option maxRecDepth 100000 in
set_option maxHeartbeats 4000000 in
theorem c_L_isBench {l : Launch} (hlt : l.stackTraces = false) {D : va_G} {ca : Nat → ClassId} {base : Nat} {ad : Nat → Int → Nat} {cn n nc nm : Int} {S T : St} {w : Wd} (hC : CW base ca ad n nc nm S w) (hS : Sim cn n nc nm S T) {o : Nat} {g : Int → Int} (ho : w o = some (eT ca g)) (hA : TA n S g) (ee : Int) (hee : 1 ≤ ee ∧ ee ≤ 12) : CT l D ca base yL_isBench cL_isBench 11 (some .boolean) 3 640 3840 [.ref (ad 0 0), .ref (o), .int (iI (ee))] w (fun v w' => v = some (.int (iI 1)) ∧ w = w') (fun _ _ => False) := by
  have hI := hS.1
  obtain ⟨hn, hnc, hnm, e3, e4, e5, h6, h7, h8⟩ := hI.top
  refine CT.mk hlt (by decide +kernel) (by first | exact Nat.le_of_ble_eq_true rfl | simp [lg_sl, cat_rf, cat_i, cat_l, cat_r]) ?_
  intro p e s m args below meth c X htab
  rw [show lv_args 0 [.ref (ad 0 0), .ref (o), .int (iI (ee))] = [(0, .ref (ad 0 0)), (1, .ref (o)), (2, .int (iI (ee)))] from by first | rfl | simp [lv_args, cat_rf, cat_i, cat_l, cat_r]]
  have h36 := hA.1
  have hlb := sm_b (f := latc S ee) (fun i => tf_b _) 12
  have hlb2 := sm_b (f := latc S 12) (fun i => tf_b _) 12
  have hll := late_n (S := S) (e := ee) e3 hn
  have hle := late_le (S := S) (e := 12) e3 hn
  have hcb := sm_b (f := fun i => tf (0 ≤ S 15 i)) (fun i => tf_b _) n.toNat
  have aft : J p l e (Rm 3 640 3840) s m args below meth c (vx_MQ below (Qn D base (fun v w' => v = some (.int (iI 1)) ∧ w = w')) (Xn D base (fun _ _ => False)) args s 640 3840 (fun q => base ≤ q)) D base 11 630 3780 182 [(5, .int (iI (1))), (4, .int (iI (sm (fun i => tf (0 ≤ S 15 i)) n.toNat))), (3, .int (iI (sm (latc S ee) n.toNat))), (0, .ref (ad 0 0)), (1, .ref (o)), (2, .int (iI (ee)))] [] w := by
    refine j_iload X dL_isBench_182 (q := 184) rfl 0 rfl ?_
    refine j_if_eq X (tgt := 211) dL_isBench_184 (by decide) (q := 187) rfl (by omega) (fun c_184 => ?_) (fun c_184 => ?_)
    · skip
      exfalso; omega
    · skip
      refine j_aload_n X dL_isBench_187 (q := 188) rfl 3 rfl ?_
      refine j_iload_n X dL_isBench_188 (q := 189) rfl 5 rfl ?_
      refine j_callV X (As := [.int (iI (ee))]) (st := []) hC.cal rfl (c_X3_late hlt hC hI ee (by omega)) sv_L_103 (by decide) rfl (by first | decide | exact Nat.le_of_ble_eq_true rfl | simp [cat_rf, cat_i, cat_l, cat_r]) dL_isBench_189 (by first | decide | exact ⟨by show _ ≤ (640 : Nat); omega, by show _ ≤ (3840 : Nat); omega⟩) (fun _ _ hE => by exfalso; omega) ?_
      rintro v9 w9 ⟨-, rfl, rfl⟩
      refine j_st (st := [.int (iI (sm (latc S ee) 12))]) ?_
      refine j_iload_n X dL_isBench_192 (q := 193) rfl 2 rfl ?_
      refine j_icmp_ne X (tgt := 211) dL_isBench_193 (by decide) (q := 196) rfl (by omega) (by omega) (fun c_193 => ?_) (fun c_193 => ?_)
      · skip
        exfalso; omega
      · skip
        refine j_aload_n X dL_isBench_196 (q := 197) rfl 3 rfl ?_
        refine j_bipush X (a := 12) (by decide +kernel) dL_isBench_197 (q := 199) rfl ?_
        refine j_callV X (As := [.int (iI (12))]) (st := []) hC.cal rfl (c_X3_late hlt hC hI 12 (by omega)) sv_L_103 (by decide) rfl (by first | decide | exact Nat.le_of_ble_eq_true rfl | simp [cat_rf, cat_i, cat_l, cat_r]) dL_isBench_199 (by first | decide | exact ⟨by show _ ≤ (640 : Nat); omega, by show _ ≤ (3840 : Nat); omega⟩) (fun _ _ hE => by exfalso; omega) ?_
        rintro v9 w9 ⟨-, rfl, rfl⟩
        refine j_st (st := [.int (iI (sm (latc S 12) 12))]) ?_
        refine j_iload X dL_isBench_202 (q := 204) rfl 1 rfl ?_
        refine j_icmp_gt X (tgt := 211) dL_isBench_204 (by decide) (q := 207) rfl (by omega) (by omega) (fun c_204 => ?_) (fun c_204 => ?_)
        · skip
          exfalso; omega
        · skip
          refine j_iconst X (a := 1) dL_isBench_207 (q := 208) rfl ?_
          refine j_goto X (tgt := 212) dL_isBench_208 (by decide) ?_
          exact j_zret X rfl (Or.inr rfl) dL_isBench_212 (⟨rfl, rfl⟩) (by first | decide | omega) (by first | decide | omega)
  have loop : ∀ (j m9 : Nat) (k9 : Int), k9 = m9 → k9 + j = n → J p l e (Rm 3 640 3840) s m args below meth c (vx_MQ below (Qn D base (fun v w' => v = some (.int (iI 1)) ∧ w = w')) (Xn D base (fun _ _ => False)) args s 640 3840 (fun q => base ≤ q)) D base 11 (52 * m9) (312 * m9) 11 [(6, .int (iI (k9))), (5, .int (iI (1))), (4, .int (iI (sm (fun i => tf (0 ≤ S 15 i)) k9.toNat))), (3, .int (iI (sm (latc S ee) k9.toNat))), (0, .ref (ad 0 0)), (1, .ref o), (2, .int (iI (ee)))] [] w := by
    intro j
    induction j with
    | zero =>
      intro m9 k9 hm hj
      have hkn : k9 = n := by omega
      refine j_iload X dL_isBench_11 (q := 13) rfl 0 rfl ?_
      refine j_aload_n X dL_isBench_13 (q := 14) rfl 5 rfl ?_
      refine j_bipush X (a := 36) (by decide +kernel) dL_isBench_14 (q := 16) rfl ?_
      refine j_tld X ho (by omega) dL_isBench_16 (q := 17) rfl ?_
      rw [hA.1]
      refine j_icmp_ge X (tgt := 182) dL_isBench_17 (by decide) (q := 20) rfl (by omega) (by omega) (fun c_17 => ?_) (fun c_17 => ?_)
      · skip
        rw [hkn]
        exact j_widen (by omega) (by omega) (j_lv aft [1, 2, 3, 4, 5, 6] rfl)
      · skip
        exfalso; omega
    | succ j ih =>
      intro m9 k9 hm hj
      have hz9 : 0 ≤ k9 ∧ k9 < n := by omega
      have hs3 := sm_s (f := latc S ee) hz9.1
      have hs4 := sm_s (f := fun i => tf (0 ≤ S 15 i)) hz9.1
      have hb3 := sm_b (f := latc S ee) (fun i => tf_b _) k9.toNat
      have hb4 := sm_b (f := fun i => tf (0 ≤ S 15 i)) (fun i => tf_b _) k9.toNat
      refine j_iload X dL_isBench_11 (q := 13) rfl 0 rfl ?_
      refine j_aload_n X dL_isBench_13 (q := 14) rfl 5 rfl ?_
      refine j_bipush X (a := 36) (by decide +kernel) dL_isBench_14 (q := 16) rfl ?_
      refine j_tld X ho (by omega) dL_isBench_16 (q := 17) rfl ?_
      rw [hA.1]
      refine j_icmp_ge X (tgt := 182) dL_isBench_17 (by decide) (q := 20) rfl (by omega) (by omega) (fun c_17 => ?_) (fun c_17 => ?_)
      · skip
        exfalso; omega
      · skip
        refine j_iload X dL_isBench_20 (q := 22) rfl 1 rfl ?_
        refine j_if_eq X (tgt := 182) dL_isBench_22 (by decide) (q := 25) rfl (by omega) (fun c_22 => ?_) (fun c_22 => ?_)
        · skip
          exfalso; omega
        · skip
          refine j_aload_n X dL_isBench_25 (q := 26) rfl 4 rfl ?_
          refine j_iload X dL_isBench_26 (q := 28) rfl 0 rfl ?_
          refine j_iload_n X dL_isBench_28 (q := 29) rfl 6 rfl ?_
          refine j_callV X (As := [.int (iI (k9)), .int (iI (ee))]) (st := []) hC.cal rfl (c_X3_benchDay hlt hC hI k9 (by omega) ee (by omega)) sv_L_88 (by decide) rfl (by first | decide | exact Nat.le_of_ble_eq_true rfl | simp [cat_rf, cat_i, cat_l, cat_r]) dL_isBench_29 (by first | decide | exact ⟨by show _ ≤ (640 : Nat); omega, by show _ ≤ (3840 : Nat); omega⟩) (fun _ _ hE => by exfalso; omega) ?_
          rintro v9 w9 ⟨-, rfl, rfl⟩
          refine j_st (st := [.int (iI (if S 15 k9 < 0 then -1 else S 7 0 + (ahd S k9).tdiv ee))]) ?_
          rw [show (if S 15 k9 < 0 then -1 else S 7 0 + (ahd S k9).tdiv ee : Int) = bd S ee k9 from rfl]
          refine j_istore X (i := 7) dL_isBench_32 (by decide) (q := 34) rfl (lv' := [(7, .int (iI (bd S ee k9))), (6, .int (iI (k9))), (5, .int (iI (1))), (4, .int (iI (sm (fun i => tf (0 ≤ S 15 i)) k9.toNat))), (3, .int (iI (sm (latc S ee) k9.toNat))), (0, .ref (ad 0 0)), (1, .ref (o)), (2, .int (iI (ee)))]) (by first | rfl | simp [cat_rf, cat_i, cat_l, cat_r]) ?_
          have hbd : (S 15 k9 < 0 ∧ bd S ee k9 = -1) ∨ (0 ≤ S 15 k9 ∧ (S 7 0 ≤ bd S ee k9 ∧ bd S ee k9 ≤ S 7 0 + 12)) := by
            by_cases q : S 15 k9 < 0
            · exact Or.inl ⟨q, bd_1 q⟩
            · exact Or.inr ⟨by omega, bd_ge hee.1 (by omega)⟩
          refine j_iload X dL_isBench_34 (q := 36) rfl 0 rfl ?_
          refine j_iconst X (a := -1) dL_isBench_36 (q := 37) rfl ?_
          refine j_icmp_eq X (tgt := 176) dL_isBench_37 (by decide) (q := 40) rfl (by omega) (by omega) (fun c_37 => ?_) (fun c_37 => ?_)
          · skip
            have hF : S 15 k9 < 0 := by omega
            have l9 := latc_n (e := ee) hF
            have c9 : tf (0 ≤ S 15 k9) = 0 := tf_f (by omega)
            refine j_iinc X dL_isBench_176 1 rfl (by decide) (q := 179) rfl (lv' := [(6, .int (iI (k9 + 1))), (7, .int (iI (bd S ee k9))), (5, .int (iI (1))), (4, .int (iI (sm (fun i => tf (0 ≤ S 15 i)) k9.toNat))), (3, .int (iI (sm (latc S ee) k9.toNat))), (0, .ref (ad 0 0)), (1, .ref (o)), (2, .int (iI (ee)))]) (by first | rfl | simp [cat_rf, cat_i, cat_l, cat_r]) ?_
            refine j_goto X (tgt := 11) dL_isBench_179 (by decide) ?_
            have e3x : sm (latc S ee) k9.toNat = sm (latc S ee) (k9 + 1).toNat := by omega
            have e4x : sm (fun i => tf (0 ≤ S 15 i)) k9.toNat = sm (fun i => tf (0 ≤ S 15 i)) (k9 + 1).toNat := by rw [hs4, c9]; omega
            rw [e3x, e4x]
            exact j_widen (by omega) (by omega) (j_lv (ih (m9 + 1) (k9 + 1) (by omega) (by omega)) [0, 2, 3, 4, 5, 6, 7] rfl)
          · skip
            have hF : 0 ≤ S 15 k9 := by omega
            have l9 := latc_bd (e := ee) e3 hz9.1 hz9.2 hF
            have c9 : tf (0 ≤ S 15 k9) = 1 := tf_t hF
            refine j_iinc X dL_isBench_40 3 rfl (by decide) (q := 43) rfl (lv' := [(4, .int (iI ((sm (fun i => tf (0 ≤ S 15 i)) k9.toNat) + 1))), (7, .int (iI (bd S ee k9))), (6, .int (iI (k9))), (5, .int (iI (1))), (3, .int (iI (sm (latc S ee) k9.toNat))), (0, .ref (ad 0 0)), (1, .ref (o)), (2, .int (iI (ee)))]) (by first | rfl | simp [cat_rf, cat_i, cat_l, cat_r]) ?_
            refine j_iload_n X dL_isBench_43 (q := 44) rfl 4 rfl ?_
            have jn_v_1 : ∀ v_1 : Int, v_1 = latc S ee k9 → J p l e (Rm 3 640 3840) s m args below meth c (vx_MQ below (Qn D base (fun v w' => v = some (.int (iI 1)) ∧ w = w')) (Xn D base (fun _ _ => False)) args s 640 3840 (fun q => base ≤ q)) D base 11 (52 * m9 + 3) (312 * m9 + 18) 60 [(4, .int (iI ((sm (fun i => tf (0 ≤ S 15 i)) k9.toNat) + 1))), (7, .int (iI (bd S ee k9))), (6, .int (iI (k9))), (5, .int (iI (1))), (3, .int (iI (sm (latc S ee) k9.toNat))), (0, .ref (ad 0 0)), (1, .ref (o)), (2, .int (iI (ee)))] [.int (iI (v_1)), .int (iI (sm (latc S ee) k9.toNat))] w := by
              intro v_1 hv_1
              refine j_iadd X dL_isBench_60 (q := 61) rfl ?_
              refine j_istore_n X (i := 3) dL_isBench_61 rfl (by decide) (q := 62) rfl (lv' := [(3, .int (iI ((sm (latc S ee) k9.toNat) + v_1))), (4, .int (iI ((sm (fun i => tf (0 ≤ S 15 i)) k9.toNat) + 1))), (7, .int (iI (bd S ee k9))), (6, .int (iI (k9))), (5, .int (iI (1))), (0, .ref (ad 0 0)), (1, .ref (o)), (2, .int (iI (ee)))]) (by first | rfl | simp [cat_rf, cat_i, cat_l, cat_r]) ?_
              have hsame : sm (fun i => tf (bd S ee i = bd S ee k9)) n.toNat ≤ ee := bd_same (S := S) e3 hn hee.1 (by omega)
              have hsb := sm_b (f := fun i => tf (bd S ee i = bd S ee k9)) (fun i => tf_b _) n.toNat
              have aft2 : J p l e (Rm 3 640 3840) s m args below meth c (vx_MQ below (Qn D base (fun v w' => v = some (.int (iI 1)) ∧ w = w')) (Xn D base (fun _ _ => False)) args s 640 3840 (fun q => base ≤ q)) D base 11 (52 * m9 + 51) (312 * m9 + 306) 149 [(8, .int (iI (sm (fun i => tf (bd S ee i = bd S ee k9)) n.toNat))), (3, .int (iI ((sm (latc S ee) k9.toNat) + v_1))), (4, .int (iI ((sm (fun i => tf (0 ≤ S 15 i)) k9.toNat) + 1))), (7, .int (iI (bd S ee k9))), (6, .int (iI (k9))), (5, .int (iI (1))), (0, .ref (ad 0 0)), (1, .ref (o)), (2, .int (iI (ee)))] [] w := by
                refine j_iload X dL_isBench_149 (q := 151) rfl 5 rfl ?_
                refine j_if_eq X (tgt := 173) dL_isBench_151 (by decide) (q := 154) rfl (by omega) (fun c_151 => ?_) (fun c_151 => ?_)
                · skip
                  exfalso; omega
                · skip
                  refine j_iload X dL_isBench_154 (q := 156) rfl 0 rfl ?_
                  refine j_iload_n X dL_isBench_156 (q := 157) rfl 8 rfl ?_
                  refine j_icmp_gt X (tgt := 173) dL_isBench_157 (by decide) (q := 160) rfl (by omega) (by omega) (fun c_157 => ?_) (fun c_157 => ?_)
                  · skip
                    exfalso; omega
                  · skip
                    refine j_iload X dL_isBench_160 (q := 162) rfl 3 rfl ?_
                    refine j_aload_n X dL_isBench_162 (q := 163) rfl 6 rfl ?_
                    refine j_callV X (As := []) (st := [.int (iI (bd S ee k9))]) hC.cal rfl (c_X3_today hlt hC hI ) sv_L_43 (by decide) rfl (by first | decide | exact Nat.le_of_ble_eq_true rfl | simp [cat_rf, cat_i, cat_l, cat_r]) dL_isBench_163 (by first | decide | exact ⟨by show _ ≤ (640 : Nat); omega, by show _ ≤ (3840 : Nat); omega⟩) (fun _ _ hE => hE.elim) ?_
                    rintro v9 w9 ⟨rfl, rfl⟩
                    refine j_st (st := [.int (iI (S 7 0)), .int (iI (bd S ee k9))]) ?_
                    refine j_icmp_lt X (tgt := 173) dL_isBench_166 (by decide) (q := 169) rfl (by omega) (by omega) (fun c_166 => ?_) (fun c_166 => ?_)
                    · skip
                      exfalso; omega
                    · skip
                      refine j_iconst X (a := 1) dL_isBench_169 (q := 170) rfl ?_
                      refine j_goto X (tgt := 174) dL_isBench_170 (by decide) ?_
                      refine j_istore X (i := 5) dL_isBench_174 (by decide) (q := 176) rfl (lv' := [(5, .int (iI (1))), (8, .int (iI (sm (fun i => tf (bd S ee i = bd S ee k9)) n.toNat))), (3, .int (iI ((sm (latc S ee) k9.toNat) + v_1))), (4, .int (iI ((sm (fun i => tf (0 ≤ S 15 i)) k9.toNat) + 1))), (7, .int (iI (bd S ee k9))), (6, .int (iI (k9))), (0, .ref (ad 0 0)), (1, .ref (o)), (2, .int (iI (ee)))]) (by first | rfl | simp [cat_rf, cat_i, cat_l, cat_r]) ?_
                      refine j_iinc X dL_isBench_176 5 rfl (by decide) (q := 179) rfl (lv' := [(6, .int (iI (k9 + 1))), (5, .int (iI (1))), (8, .int (iI (sm (fun i => tf (bd S ee i = bd S ee k9)) n.toNat))), (3, .int (iI ((sm (latc S ee) k9.toNat) + v_1))), (4, .int (iI ((sm (fun i => tf (0 ≤ S 15 i)) k9.toNat) + 1))), (7, .int (iI (bd S ee k9))), (0, .ref (ad 0 0)), (1, .ref (o)), (2, .int (iI (ee)))]) (by first | rfl | simp [cat_rf, cat_i, cat_l, cat_r]) ?_
                      refine j_goto X (tgt := 11) dL_isBench_179 (by decide) ?_
                      have e3x : (sm (latc S ee) k9.toNat) + v_1 = sm (latc S ee) (k9 + 1).toNat := by rw [hs3, hv_1]
                      have e4x : (sm (fun i => tf (0 ≤ S 15 i)) k9.toNat) + 1 = sm (fun i => tf (0 ≤ S 15 i)) (k9 + 1).toNat := by rw [hs4, c9]
                      rw [e3x, e4x]
                      exact j_widen (by omega) (by omega) (j_lv (ih (m9 + 1) (k9 + 1) (by omega) (by omega)) [0, 1, 4, 3, 6, 7, 8] rfl)
              have inner : ∀ (i n9 : Nat) (x9 : Int), x9 = n9 → x9 + i = n → J p l e (Rm 3 640 3840) s m args below meth c (vx_MQ below (Qn D base (fun v w' => v = some (.int (iI 1)) ∧ w = w')) (Xn D base (fun _ _ => False)) args s 640 3840 (fun q => base ≤ q)) D base 11 (52 * m9 + 3 + 4 * n9) (312 * m9 + 18 + 24 * n9) 68 [(9, .int (iI (x9))), (8, .int (iI (sm (fun i => tf (bd S ee i = bd S ee k9)) x9.toNat))), (3, .int (iI ((sm (latc S ee) k9.toNat) + v_1))), (4, .int (iI ((sm (fun i => tf (0 ≤ S 15 i)) k9.toNat) + 1))), (7, .int (iI (bd S ee k9))), (6, .int (iI (k9))), (5, .int (iI (1))), (0, .ref (ad 0 0)), (1, .ref (o)), (2, .int (iI (ee)))] [] w := by
                intro i
                induction i with
                | zero =>
                  intro n9 x9 hm2 hi2
                  have hxn : x9 = n := by omega
                  refine j_iload X dL_isBench_68 (q := 70) rfl 0 rfl ?_
                  refine j_aload_n X dL_isBench_70 (q := 71) rfl 8 rfl ?_
                  refine j_bipush X (a := 36) (by decide +kernel) dL_isBench_71 (q := 73) rfl ?_
                  refine j_tld X ho (by omega) dL_isBench_73 (q := 74) rfl ?_
                  rw [hA.1]
                  refine j_icmp_ge X (tgt := 149) dL_isBench_74 (by decide) (q := 77) rfl (by omega) (by omega) (fun c_74 => ?_) (fun c_74 => ?_)
                  · skip
                    rw [hxn]
                    exact j_widen (by omega) (by omega) (j_lv aft2 [1, 2, 3, 4, 5, 6, 7, 8, 9] rfl)
                  · skip
                    exfalso; omega
                | succ i ih2 =>
                  intro n9 x9 hm2 hi2
                  have hx9 : 0 ≤ x9 ∧ x9 < n := by omega
                  have hs8 := sm_s (f := fun i => tf (bd S ee i = bd S ee k9)) hx9.1
                  have hb8 := sm_b (f := fun i => tf (bd S ee i = bd S ee k9)) (fun i => tf_b _) x9.toNat
                  have hbx : (S 15 x9 < 0 ∧ bd S ee x9 = -1) ∨ (0 ≤ S 15 x9 ∧ (S 7 0 ≤ bd S ee x9 ∧ bd S ee x9 ≤ S 7 0 + 12)) := by
                    by_cases q : S 15 x9 < 0
                    · exact Or.inl ⟨q, bd_1 q⟩
                    · exact Or.inr ⟨by omega, bd_ge hee.1 (by omega)⟩
                  refine j_iload X dL_isBench_68 (q := 70) rfl 0 rfl ?_
                  refine j_aload_n X dL_isBench_70 (q := 71) rfl 8 rfl ?_
                  refine j_bipush X (a := 36) (by decide +kernel) dL_isBench_71 (q := 73) rfl ?_
                  refine j_tld X ho (by omega) dL_isBench_73 (q := 74) rfl ?_
                  rw [hA.1]
                  refine j_icmp_ge X (tgt := 149) dL_isBench_74 (by decide) (q := 77) rfl (by omega) (by omega) (fun c_74 => ?_) (fun c_74 => ?_)
                  · skip
                    exfalso; omega
                  · skip
                    refine j_aload_n X dL_isBench_77 (q := 78) rfl 7 rfl ?_
                    refine j_iload X dL_isBench_78 (q := 80) rfl 0 rfl ?_
                    refine j_iload_n X dL_isBench_80 (q := 81) rfl 9 rfl ?_
                    refine j_callV X (As := [.int (iI (x9)), .int (iI (ee))]) (st := []) hC.cal rfl (c_X3_benchDay hlt hC hI x9 (by omega) ee (by omega)) sv_L_88 (by decide) rfl (by first | decide | exact Nat.le_of_ble_eq_true rfl | simp [cat_rf, cat_i, cat_l, cat_r]) dL_isBench_81 (by first | decide | exact ⟨by show _ ≤ (640 : Nat); omega, by show _ ≤ (3840 : Nat); omega⟩) (fun _ _ hE => by exfalso; omega) ?_
                    rintro v9 w9 ⟨-, rfl, rfl⟩
                    refine j_st (st := [.int (iI (if S 15 x9 < 0 then -1 else S 7 0 + (ahd S x9).tdiv ee))]) ?_
                    rw [show (if S 15 x9 < 0 then -1 else S 7 0 + (ahd S x9).tdiv ee : Int) = bd S ee x9 from rfl]
                    refine j_istore X (i := 10) dL_isBench_84 (by decide) (q := 86) rfl (lv' := [(10, .int (iI (bd S ee x9))), (9, .int (iI (x9))), (8, .int (iI (sm (fun i => tf (bd S ee i = bd S ee k9)) x9.toNat))), (3, .int (iI ((sm (latc S ee) k9.toNat) + v_1))), (4, .int (iI ((sm (fun i => tf (0 ≤ S 15 i)) k9.toNat) + 1))), (7, .int (iI (bd S ee k9))), (6, .int (iI (k9))), (5, .int (iI (1))), (0, .ref (ad 0 0)), (1, .ref (o)), (2, .int (iI (ee)))]) (by first | rfl | simp [cat_rf, cat_i, cat_l, cat_r]) ?_
                    refine j_iload X dL_isBench_86 (q := 88) rfl 2 rfl ?_
                    have jn_v_2 : ∀ v_2 : Int, v_2 = tf (bd S ee x9 = bd S ee k9) → J p l e (Rm 3 640 3840) s m args below meth c (vx_MQ below (Qn D base (fun v w' => v = some (.int (iI 1)) ∧ w = w')) (Xn D base (fun _ _ => False)) args s 640 3840 (fun q => base ≤ q)) D base 11 (52 * m9 + 3 + 4 * n9 + 2) (312 * m9 + 18 + 24 * n9 + 12) 100 [(10, .int (iI (bd S ee x9))), (9, .int (iI (x9))), (8, .int (iI (sm (fun i => tf (bd S ee i = bd S ee k9)) x9.toNat))), (3, .int (iI ((sm (latc S ee) k9.toNat) + v_1))), (4, .int (iI ((sm (fun i => tf (0 ≤ S 15 i)) k9.toNat) + 1))), (7, .int (iI (bd S ee k9))), (6, .int (iI (k9))), (5, .int (iI (1))), (0, .ref (ad 0 0)), (1, .ref (o)), (2, .int (iI (ee)))] [.int (iI (v_2)), .int (iI (sm (fun i => tf (bd S ee i = bd S ee k9)) x9.toNat))] w := by
                      intro v_2 hv_2
                      refine j_iadd X dL_isBench_100 (q := 101) rfl ?_
                      refine j_istore X (i := 8) dL_isBench_101 (by decide) (q := 103) rfl (lv' := [(8, .int (iI ((sm (fun i => tf (bd S ee i = bd S ee k9)) x9.toNat) + v_2))), (10, .int (iI (bd S ee x9))), (9, .int (iI (x9))), (3, .int (iI ((sm (latc S ee) k9.toNat) + v_1))), (4, .int (iI ((sm (fun i => tf (0 ≤ S 15 i)) k9.toNat) + 1))), (7, .int (iI (bd S ee k9))), (6, .int (iI (k9))), (5, .int (iI (1))), (0, .ref (ad 0 0)), (1, .ref (o)), (2, .int (iI (ee)))]) (by first | rfl | simp [cat_rf, cat_i, cat_l, cat_r]) ?_
                      refine j_iload X dL_isBench_103 (q := 105) rfl 7 rfl ?_
                      refine j_if_eq X (tgt := 140) dL_isBench_105 (by decide) (q := 108) rfl (by omega) (fun c_105 => ?_) (fun c_105 => ?_)
                      · skip
                        exfalso; omega
                      · skip
                        have mt_v_3 : J p l e (Rm 3 640 3840) s m args below meth c (vx_MQ below (Qn D base (fun v w' => v = some (.int (iI 1)) ∧ w = w')) (Xn D base (fun _ _ => False)) args s 640 3840 (fun q => base ≤ q)) D base 11 (52 * m9 + 3 + 4 * n9 + 4) (312 * m9 + 18 + 24 * n9 + 24) 136 [(8, .int (iI ((sm (fun i => tf (bd S ee i = bd S ee k9)) x9.toNat) + v_2))), (10, .int (iI (bd S ee x9))), (9, .int (iI (x9))), (3, .int (iI ((sm (latc S ee) k9.toNat) + v_1))), (4, .int (iI ((sm (fun i => tf (0 ≤ S 15 i)) k9.toNat) + 1))), (7, .int (iI (bd S ee k9))), (6, .int (iI (k9))), (5, .int (iI (1))), (0, .ref (ad 0 0)), (1, .ref (o)), (2, .int (iI (ee)))] [] w := by
                          refine j_iconst X (a := 1) dL_isBench_136 (q := 137) rfl ?_
                          refine j_goto X (tgt := 141) dL_isBench_137 (by decide) ?_
                          refine j_istore X (i := 5) dL_isBench_141 (by decide) (q := 143) rfl (lv' := [(5, .int (iI (1))), (8, .int (iI ((sm (fun i => tf (bd S ee i = bd S ee k9)) x9.toNat) + v_2))), (10, .int (iI (bd S ee x9))), (9, .int (iI (x9))), (3, .int (iI ((sm (latc S ee) k9.toNat) + v_1))), (4, .int (iI ((sm (fun i => tf (0 ≤ S 15 i)) k9.toNat) + 1))), (7, .int (iI (bd S ee k9))), (6, .int (iI (k9))), (0, .ref (ad 0 0)), (1, .ref (o)), (2, .int (iI (ee)))]) (by first | rfl | simp [cat_rf, cat_i, cat_l, cat_r]) ?_
                          refine j_iinc X dL_isBench_143 3 rfl (by decide) (q := 146) rfl (lv' := [(9, .int (iI (x9 + 1))), (5, .int (iI (1))), (8, .int (iI ((sm (fun i => tf (bd S ee i = bd S ee k9)) x9.toNat) + v_2))), (10, .int (iI (bd S ee x9))), (3, .int (iI ((sm (latc S ee) k9.toNat) + v_1))), (4, .int (iI ((sm (fun i => tf (0 ≤ S 15 i)) k9.toNat) + 1))), (7, .int (iI (bd S ee k9))), (6, .int (iI (k9))), (0, .ref (ad 0 0)), (1, .ref (o)), (2, .int (iI (ee)))]) (by first | rfl | simp [cat_rf, cat_i, cat_l, cat_r]) ?_
                          refine j_goto X (tgt := 68) dL_isBench_146 (by decide) ?_
                          have e8 : (sm (fun i => tf (bd S ee i = bd S ee k9)) x9.toNat) + v_2 = sm (fun i => tf (bd S ee i = bd S ee k9)) (x9 + 1).toNat := by rw [hs8, hv_2]
                          rw [e8]
                          exact j_widen (by omega) (by omega) (j_lv (ih2 (n9 + 1) (x9 + 1) (by omega) (by omega)) [0, 2, 4, 5, 6, 7, 1, 8, 9, 10] rfl)
                        refine j_iload X dL_isBench_108 (q := 110) rfl 1 rfl ?_
                        refine j_iconst X (a := -1) dL_isBench_110 (q := 111) rfl ?_
                        refine j_icmp_eq X (tgt := 136) dL_isBench_111 (by decide) (q := 114) rfl (by omega) (by omega) (fun c_111 => ?_) (fun c_111 => ?_)
                        · skip
                          exact j_widen (by omega) (by omega) mt_v_3
                        · skip
                          refine j_iload X dL_isBench_114 (q := 116) rfl 1 rfl ?_
                          refine j_iload X dL_isBench_116 (q := 118) rfl 5 rfl ?_
                          refine j_icmp_ge X (tgt := 136) dL_isBench_118 (by decide) (q := 121) rfl (by omega) (by omega) (fun c_118 => ?_) (fun c_118 => ?_)
                          · skip
                            exact j_widen (by omega) (by omega) mt_v_3
                          · skip
                            refine j_aload_n X dL_isBench_121 (q := 122) rfl 8 rfl ?_
                            refine j_iload X dL_isBench_122 (q := 124) rfl 2 rfl ?_
                            refine j_callV X (As := [.int (iI (x9))]) (st := []) hC.cal rfl (c_X3_dueOf hlt hC hI x9 (by omega)) sv_L_22 (by decide) rfl (by first | decide | exact Nat.le_of_ble_eq_true rfl | simp [cat_rf, cat_i, cat_l, cat_r]) dL_isBench_124 (by first | decide | exact ⟨by show _ ≤ (640 : Nat); omega, by show _ ≤ (3840 : Nat); omega⟩) (fun _ _ hE => by exfalso; omega) ?_
                            rintro v9 w9 ⟨-, rfl, rfl⟩
                            refine j_st (st := [.int (iI (if S 15 x9 < 0 then -1 else S 21 (S 15 x9) + S 13 x9))]) ?_
                            obtain ⟨dx, hdx, hdx2⟩ := du_spec hI hx9
                            rw [← hdx]
                            refine j_aload_n X dL_isBench_127 (q := 128) rfl 8 rfl ?_
                            refine j_iload X dL_isBench_128 (q := 130) rfl 6 rfl ?_
                            refine j_callV X (As := [.int (iI (k9))]) (st := [.int (iI (dx))]) hC.cal rfl (c_X3_dueOf hlt hC hI k9 (by omega)) sv_L_22 (by decide) rfl (by first | decide | exact Nat.le_of_ble_eq_true rfl | simp [cat_rf, cat_i, cat_l, cat_r]) dL_isBench_130 (by first | decide | exact ⟨by show _ ≤ (640 : Nat); omega, by show _ ≤ (3840 : Nat); omega⟩) (fun _ _ hE => by exfalso; omega) ?_
                            rintro v9 w9 ⟨-, rfl, rfl⟩
                            refine j_st (st := [.int (iI (if S 15 k9 < 0 then -1 else S 21 (S 15 k9) + S 13 k9)), .int (iI (dx))]) ?_
                            obtain ⟨dk, hdk, hdk2⟩ := du_spec hI hz9
                            rw [← hdk]
                            refine j_icmp_gt X (tgt := 140) dL_isBench_133 (by decide) (q := 136) rfl (by omega) (by omega) (fun c_133 => ?_) (fun c_133 => ?_)
                            · skip
                              have hdd := bd_due (S := S) (e := ee) (u := x9) (v := k9) (by omega) hee.1 ⟨hz9.1, by omega⟩ (by omega) hF (by omega)
                              exfalso; omega
                            · skip
                              exact j_widen (by omega) (by omega) mt_v_3
                    refine j_iload X dL_isBench_88 (q := 90) rfl 0 rfl ?_
                    refine j_iload X dL_isBench_90 (q := 92) rfl 5 rfl ?_
                    refine j_icmp_ne X (tgt := 99) dL_isBench_92 (by decide) (q := 95) rfl (by omega) (by omega) (fun c_92 => ?_) (fun c_92 => ?_)
                    · skip
                      refine j_iconst X (a := 0) dL_isBench_99 (q := 100) rfl ?_
                      exact j_widen (by omega) (by omega) (jn_v_2 _ ((tf_f (by omega)).symm))
                    · skip
                      refine j_iconst X (a := 1) dL_isBench_95 (q := 96) rfl ?_
                      refine j_goto X (tgt := 100) dL_isBench_96 (by decide) ?_
                      exact j_widen (by omega) (by omega) (jn_v_2 _ ((tf_t (by omega)).symm))
              refine j_iconst X (a := 0) dL_isBench_62 (q := 63) rfl ?_
              refine j_istore X (i := 8) dL_isBench_63 (by decide) (q := 65) rfl (lv' := [(8, .int (iI (0))), (3, .int (iI ((sm (latc S ee) k9.toNat) + v_1))), (4, .int (iI ((sm (fun i => tf (0 ≤ S 15 i)) k9.toNat) + 1))), (7, .int (iI (bd S ee k9))), (6, .int (iI (k9))), (5, .int (iI (1))), (0, .ref (ad 0 0)), (1, .ref (o)), (2, .int (iI (ee)))]) (by first | rfl | simp [cat_rf, cat_i, cat_l, cat_r]) ?_
              refine j_iconst X (a := 0) dL_isBench_65 (q := 66) rfl ?_
              refine j_istore X (i := 9) dL_isBench_66 (by decide) (q := 68) rfl (lv' := [(9, .int (iI (0))), (8, .int (iI (0))), (3, .int (iI ((sm (latc S ee) k9.toNat) + v_1))), (4, .int (iI ((sm (fun i => tf (0 ≤ S 15 i)) k9.toNat) + 1))), (7, .int (iI (bd S ee k9))), (6, .int (iI (k9))), (5, .int (iI (1))), (0, .ref (ad 0 0)), (1, .ref (o)), (2, .int (iI (ee)))]) (by first | rfl | simp [cat_rf, cat_i, cat_l, cat_r]) ?_
              exact j_widen (by omega) (by omega) (j_lv (inner n.toNat 0 0 rfl (by omega)) [0, 1, 2, 3, 4, 5, 6, 7, 8, 9] rfl)
            refine j_iload X dL_isBench_44 (q := 46) rfl 1 rfl ?_
            refine j_aload_n X dL_isBench_46 (q := 47) rfl 5 rfl ?_
            refine j_iload X dL_isBench_47 (q := 49) rfl 2 rfl ?_
            refine j_callV X (As := [.int (iI (k9))]) (st := [.int (iI (bd S ee k9)), .int (iI (sm (latc S ee) k9.toNat))]) hC.cal rfl (c_X3_dueOf hlt hC hI k9 (by omega)) sv_L_22 (by decide) rfl (by first | decide | exact Nat.le_of_ble_eq_true rfl | simp [cat_rf, cat_i, cat_l, cat_r]) dL_isBench_49 (by first | decide | exact ⟨by show _ ≤ (640 : Nat); omega, by show _ ≤ (3840 : Nat); omega⟩) (fun _ _ hE => by exfalso; omega) ?_
            rintro v9 w9 ⟨-, rfl, rfl⟩
            refine j_st (st := [.int (iI (if S 15 k9 < 0 then -1 else S 21 (S 15 k9) + S 13 k9)), .int (iI (bd S ee k9)), .int (iI (sm (latc S ee) k9.toNat))]) ?_
            obtain ⟨du, hdu, hdu2⟩ := du_spec hI hz9
            rw [← hdu]
            refine j_icmp_le X (tgt := 59) dL_isBench_52 (by decide) (q := 55) rfl (by omega) (by omega) (fun c_52 => ?_) (fun c_52 => ?_)
            · skip
              refine j_iconst X (a := 0) dL_isBench_59 (q := 60) rfl ?_
              exact j_widen (by omega) (by omega) (jn_v_1 _ ((l9.trans (tf_f (by omega))).symm))
            · skip
              refine j_iconst X (a := 1) dL_isBench_55 (q := 56) rfl ?_
              refine j_goto X (tgt := 60) dL_isBench_56 (by decide) ?_
              exact j_widen (by omega) (by omega) (jn_v_1 _ ((l9.trans (tf_t (by omega))).symm))
  refine j_iconst X (a := 0) dL_isBench_0 (q := 1) rfl ?_
  refine j_istore_n X (i := 3) dL_isBench_1 rfl (by decide) (q := 2) rfl (lv' := [(3, .int (iI (0))), (0, .ref (ad 0 0)), (1, .ref (o)), (2, .int (iI (ee)))]) (by first | rfl | simp [cat_rf, cat_i, cat_l, cat_r]) ?_
  refine j_iconst X (a := 0) dL_isBench_2 (q := 3) rfl ?_
  refine j_istore X (i := 4) dL_isBench_3 (by decide) (q := 5) rfl (lv' := [(4, .int (iI (0))), (3, .int (iI (0))), (0, .ref (ad 0 0)), (1, .ref (o)), (2, .int (iI (ee)))]) (by first | rfl | simp [cat_rf, cat_i, cat_l, cat_r]) ?_
  refine j_iconst X (a := 1) dL_isBench_5 (q := 6) rfl ?_
  refine j_istore X (i := 5) dL_isBench_6 (by decide) (q := 8) rfl (lv' := [(5, .int (iI (1))), (4, .int (iI (0))), (3, .int (iI (0))), (0, .ref (ad 0 0)), (1, .ref (o)), (2, .int (iI (ee)))]) (by first | rfl | simp [cat_rf, cat_i, cat_l, cat_r]) ?_
  refine j_iconst X (a := 0) dL_isBench_8 (q := 9) rfl ?_
  refine j_istore X (i := 6) dL_isBench_9 (by decide) (q := 11) rfl (lv' := [(6, .int (iI (0))), (5, .int (iI (1))), (4, .int (iI (0))), (3, .int (iI (0))), (0, .ref (ad 0 0)), (1, .ref (o)), (2, .int (iI (ee)))]) (by first | rfl | simp [cat_rf, cat_i, cat_l, cat_r]) ?_
  exact j_widen (by omega) (by omega) (j_lv (loop n.toNat 0 0 rfl (by omega)) [0, 1, 2, 3, 4, 5, 6] rfl)
