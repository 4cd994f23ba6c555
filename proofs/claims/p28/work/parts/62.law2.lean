theorem du_spec {n nc nm : Int} {S : St} (hI : IC n nc nm S) {z : Int} (hz : 0 ≤ z ∧ z < n) : ∃ du : Int, du = (if S 15 z < 0 then -1 else S 21 (S 15 z) + S 13 z) ∧ ((S 15 z < 0 ∧ du = -1) ∨ (0 ≤ S 15 z ∧ du = due S z ∧ (1 ≤ du ∧ du ≤ 512487))) := by
  refine ⟨_, rfl, ?_⟩
  by_cases h : S 15 z < 0
  · rw [if_pos h]; exact Or.inl ⟨h, rfl⟩
  · rw [if_neg h]
    obtain ⟨-, -, -, i3, -, i5, -⟩ := hI.ins hz.1 hz.2
    obtain ⟨-, k1, -⟩ := hI.kal (show 0 ≤ S 15 z by omega) i5.2
    exact Or.inr ⟨by omega, rfl, by omega, by omega⟩
theorem sp_spec {n nc nm : Int} {S : St} (hI : IC n nc nm S) {z : Int} (hz : 0 ≤ z ∧ z < n) : ∃ sp : Int, sp = tf (0 ≤ S 15 z ∧ S 26 (S 15 z) = 1) ∧ (0 ≤ sp ∧ sp ≤ 1) ∧ (0 ≤ S 15 z → S 26 (S 15 z) = sp) := by
  refine ⟨_, rfl, tf_b _, fun h => ?_⟩
  have i5 := (hI.ins hz.1 hz.2).2.2.2.2.2.1
  obtain ⟨-, -, -, -, -, -, k26, -⟩ := hI.kal h i5.2
  by_cases c : S 26 (S 15 z) = 1
  · rw [tf_t ⟨h, c⟩, c]
  · rw [tf_f (fun q => c q.2)]; omega
theorem inF_1 {S : St} {i : Int} (h : 0 ≤ S 15 i ∧ S 7 0 ≤ due S i ∧ S 26 (S 15 i) = 0) : (1 : Int) = inF S i := (tf_t h).symm
theorem inF_0 {S : St} {i : Int} (h : ¬ (0 ≤ S 15 i ∧ S 7 0 ≤ due S i ∧ S 26 (S 15 i) = 0)) : (0 : Int) = inF S i := (tf_f h).symm
theorem ite_lm (x : Int) : ∃ lm : Int, lm = (if 0 < x then x else 0) ∧ ((0 < x ∧ lm = x) ∨ (x ≤ 0 ∧ lm = 0)) := by
  refine ⟨_, rfl, ?_⟩
  by_cases h : 0 < x
  · rw [if_pos h]; exact Or.inl ⟨h, rfl⟩
  · rw [if_neg h]; exact Or.inr ⟨by omega, rfl⟩

set_option maxRecDepth 100000 in
set_option maxHeartbeats 4000000 in
theorem c_L_isInstrument {l : Launch} (hlt : l.stackTraces = false) {D : va_G} {ca : Nat → ClassId} {base : Nat} {ad : Nat → Int → Nat} {cn n nc nm : Int} {S T : St} {w : Wd} (hC : CW base ca ad n nc nm S w) (hS : Sim cn n nc nm S T) {o : Nat} {g : Int → Int} (ho : w o = some (eT ca g)) (hA : TA n S g) (z : Int) (hz : 0 ≤ z ∧ z < n) : CT l D ca base yL_isInstrument cL_isInstrument 10 (some .boolean) 15 60 360 [.ref (ad 0 0), .ref (o), .int (iI (z))] w (fun v w' => v = some (.int (iI 1)) ∧ w = w') (fun _ _ => False) := by
  have hI := hS.1
  obtain ⟨hn, hnc, hnm, e3, e4, e5, h6, h7, h8⟩ := hI.top
  refine CT.mk hlt (by decide +kernel) (by first | exact Nat.le_of_ble_eq_true rfl | simp [lg_sl, cat_rf, cat_i, cat_l, cat_r]) ?_
  intro p e s m args below meth c X htab
  rw [show lv_args 0 [.ref (ad 0 0), .ref (o), .int (iI (z))] = [(0, .ref (ad 0 0)), (1, .ref (o)), (2, .int (iI (z)))] from by first | rfl | simp [lv_args, cat_rf, cat_i, cat_l, cat_r]]
  obtain ⟨i0, i1, i2, i3, i4, i5, i6, i17, i18⟩ := hI.ins hz.1 hz.2
  have hen := hI.ends (i := z) (by omega) hz.2
  have hbu := unc_b hI.own 12 z (by decide) (by omega) hz.2
  have hbr := unc_b hI.own 12 (S 14 z) (by decide) i4.1 i4.2
  have hbl := len_b (S 14) 12 z
  have hbf := fof_r (ref := S 14) (inF := inF S) (n := n) (fun i a b => (hI.ins a b).2.2.2.2.1) 12 z (by omega) hz.2 (by omega)
  have hu12 := unc_12 (own := S 12) hen hz.1
  have aft : J p l e (Rm 15 60 360) s m args below meth c (vx_MQ below (Qn D base (fun v w' => v = some (.int (iI 1)) ∧ w = w')) (Xn D base (fun _ _ => False)) args s 60 360 (fun q => base ≤ q)) D base 10 36 216 85 [(4, .int (iI (fof (S 14) (inF S) 12 z))), (3, .int (iI (len (S 14) 12 z))), (0, .ref (ad 0 0)), (1, .ref (o)), (2, .int (iI (z)))] [] w := by
    refine j_aload_n X dL_isInstrument_85 (q := 86) rfl 2 rfl ?_
    refine j_iload_n X dL_isInstrument_86 (q := 87) rfl 4 rfl ?_
    refine j_callV X (As := [.int (iI (z))]) (st := []) hC.cal rfl (c_X3_uncertainty hlt hC hI z (by omega)) sv_L_79 (by decide) rfl (by first | decide | exact Nat.le_of_ble_eq_true rfl | simp [cat_rf, cat_i, cat_l, cat_r]) dL_isInstrument_87 (by first | decide | exact ⟨by show _ ≤ (60 : Nat); omega, by show _ ≤ (360 : Nat); omega⟩) (fun _ _ hE => by exfalso; omega) ?_
    rintro v9 w9 ⟨-, rfl, rfl⟩
    refine j_st (st := [.int (iI (unc (S 14) (S 12) 12 z))]) ?_
    refine j_istore X (i := 5) dL_isInstrument_90 (by decide) (q := 92) rfl (lv' := [(5, .int (iI (unc (S 14) (S 12) 12 z))), (4, .int (iI (fof (S 14) (inF S) 12 z))), (3, .int (iI (len (S 14) 12 z))), (0, .ref (ad 0 0)), (1, .ref (o)), (2, .int (iI (z)))]) (by first | rfl | simp [cat_rf, cat_i, cat_l, cat_r]) ?_
    have jn_v_1 : ∀ v_1 : Int, v_1 = unc (S 14) (S 12) 12 (S 14 z) → J p l e (Rm 15 60 360) s m args below meth c (vx_MQ below (Qn D base (fun v w' => v = some (.int (iI 1)) ∧ w = w')) (Xn D base (fun _ _ => False)) args s 60 360 (fun q => base ≤ q)) D base 10 38 228 110 [(5, .int (iI (unc (S 14) (S 12) 12 z))), (4, .int (iI (fof (S 14) (inF S) 12 z))), (3, .int (iI (len (S 14) 12 z))), (0, .ref (ad 0 0)), (1, .ref (o)), (2, .int (iI (z)))] [.int (iI (v_1))] w := by
      intro v_1 hv_1
      refine j_istore X (i := 6) dL_isInstrument_110 (by decide) (q := 112) rfl (lv' := [(6, .int (iI (v_1))), (5, .int (iI (unc (S 14) (S 12) 12 z))), (4, .int (iI (fof (S 14) (inF S) 12 z))), (3, .int (iI (len (S 14) 12 z))), (0, .ref (ad 0 0)), (1, .ref (o)), (2, .int (iI (z)))]) (by first | rfl | simp [cat_rf, cat_i, cat_l, cat_r]) ?_
      have hs1 := sq_r (A := 12000) (show 0 ≤ unc (S 14) (S 12) 12 z ∧ unc (S 14) (S 12) 12 z ≤ 12000 by omega)
      have hs2 := sq_r (A := 12000) (show 0 ≤ v_1 ∧ v_1 ≤ 12000 by omega)
      have hs3 := sq_r i2
      rw [← hv_1] at hu12
      have hrl := rt_law (x := S 12 z * S 12 z + v_1 * v_1) (by omega)
      rw [← hu12] at hrl
      refine j_aload_n X dL_isInstrument_112 (q := 113) rfl 5 rfl ?_
      refine j_bipush X (a := 24) (by decide +kernel) dL_isInstrument_113 (q := 115) rfl ?_
      refine j_iload_n X dL_isInstrument_115 (q := 116) rfl 6 rfl ?_
      refine j_iadd X dL_isInstrument_116 (q := 117) rfl ?_
      refine j_tld X ho (by omega) dL_isInstrument_117 (q := 118) rfl ?_
      rw [(hA.2 z hz.1 hz.2).2.2]
      refine j_aload_n X dL_isInstrument_118 (q := 119) rfl 5 rfl ?_
      refine j_bipush X (a := 24) (by decide +kernel) dL_isInstrument_119 (q := 121) rfl ?_
      refine j_iload_n X dL_isInstrument_121 (q := 122) rfl 6 rfl ?_
      refine j_iadd X dL_isInstrument_122 (q := 123) rfl ?_
      refine j_tld X ho (by omega) dL_isInstrument_123 (q := 124) rfl ?_
      rw [(hA.2 z hz.1 hz.2).2.2]
      refine j_imul X dL_isInstrument_124 (q := 125) rfl ?_
      refine j_iload X dL_isInstrument_125 (q := 127) rfl 0 rfl ?_
      refine j_iload X dL_isInstrument_127 (q := 129) rfl 0 rfl ?_
      refine j_imul X dL_isInstrument_129 (q := 130) rfl ?_
      refine j_iadd X dL_isInstrument_130 (q := 131) rfl ?_
      refine j_istore X (i := 7) dL_isInstrument_131 (by decide) (q := 133) rfl (lv' := [(7, .int (iI (((S 12 z) * (S 12 z)) + (v_1 * v_1)))), (6, .int (iI (v_1))), (5, .int (iI (unc (S 14) (S 12) 12 z))), (4, .int (iI (fof (S 14) (inF S) 12 z))), (3, .int (iI (len (S 14) 12 z))), (0, .ref (ad 0 0)), (1, .ref (o)), (2, .int (iI (z)))]) (by first | rfl | simp [cat_rf, cat_i, cat_l, cat_r]) ?_
      refine j_aload_n X dL_isInstrument_133 (q := 134) rfl 5 rfl ?_
      refine j_iload_n X dL_isInstrument_134 (q := 135) rfl 7 rfl ?_
      refine j_callV X (As := [.int (iI (z))]) (st := []) hC.cal rfl (c_X3_chain hlt hC hI z (by omega)) sv_L_36 (by decide) rfl (by first | decide | exact Nat.le_of_ble_eq_true rfl | simp [cat_rf, cat_i, cat_l, cat_r]) dL_isInstrument_135 (by first | decide | exact ⟨by show _ ≤ (60 : Nat); omega, by show _ ≤ (360 : Nat); omega⟩) (fun _ _ hE => by exfalso; omega) ?_
      rintro v9 w9 ⟨-, rfl, rfl⟩
      refine j_st (st := [.int (iI (len (S 14) 12 z))]) ?_
      refine j_iload_n X dL_isInstrument_138 (q := 139) rfl 4 rfl ?_
      refine j_icmp_ne X (tgt := 206) dL_isInstrument_139 (by decide) (q := 142) rfl (by omega) (by omega) (fun c_139 => ?_) (fun c_139 => ?_)
      · skip
        exact absurd rfl c_139
      · skip
        refine j_aload_n X dL_isInstrument_142 (q := 143) rfl 5 rfl ?_
        refine j_iload_n X dL_isInstrument_143 (q := 144) rfl 7 rfl ?_
        refine j_callV X (As := [.int (iI (z))]) (st := []) hC.cal rfl (c_X3_distrusted hlt hC hI z (by omega)) sv_L_33 (by decide) rfl (by first | decide | exact Nat.le_of_ble_eq_true rfl | simp [cat_rf, cat_i, cat_l, cat_r]) dL_isInstrument_144 (by first | decide | exact ⟨by show _ ≤ (60 : Nat); omega, by show _ ≤ (360 : Nat); omega⟩) (fun _ _ hE => by exfalso; omega) ?_
        rintro v9 w9 ⟨-, rfl, rfl⟩
        refine j_st (st := [.int (iI (fof (S 14) (inF S) 12 z))]) ?_
        refine j_iload X dL_isInstrument_147 (q := 149) rfl 3 rfl ?_
        refine j_icmp_ne X (tgt := 206) dL_isInstrument_149 (by decide) (q := 152) rfl (by omega) (by omega) (fun c_149 => ?_) (fun c_149 => ?_)
        · skip
          exact absurd rfl c_149
        · skip
          have mt_v_2 : J p l e (Rm 15 60 360) s m args below meth c (vx_MQ below (Qn D base (fun v w' => v = some (.int (iI 1)) ∧ w = w')) (Xn D base (fun _ _ => False)) args s 60 360 (fun q => base ≤ q)) D base 10 40 240 202 [(7, .int (iI (((S 12 z) * (S 12 z)) + (v_1 * v_1)))), (6, .int (iI (v_1))), (5, .int (iI (unc (S 14) (S 12) 12 z))), (4, .int (iI (fof (S 14) (inF S) 12 z))), (3, .int (iI (len (S 14) 12 z))), (0, .ref (ad 0 0)), (1, .ref (o)), (2, .int (iI (z)))] [] w := by
            refine j_iconst X (a := 1) dL_isInstrument_202 (q := 203) rfl ?_
            refine j_goto X (tgt := 207) dL_isInstrument_203 (by decide) ?_
            refine j_istore X (i := 8) dL_isInstrument_207 (by decide) (q := 209) rfl (lv' := [(8, .int (iI (1))), (7, .int (iI (((S 12 z) * (S 12 z)) + (v_1 * v_1)))), (6, .int (iI (v_1))), (5, .int (iI (unc (S 14) (S 12) 12 z))), (4, .int (iI (fof (S 14) (inF S) 12 z))), (3, .int (iI (len (S 14) 12 z))), (0, .ref (ad 0 0)), (1, .ref (o)), (2, .int (iI (z)))]) (by first | rfl | simp [cat_rf, cat_i, cat_l, cat_r]) ?_
            refine j_aload_n X dL_isInstrument_209 (q := 210) rfl 7 rfl ?_
            refine j_bipush X (a := 12) (by decide +kernel) dL_isInstrument_210 (q := 212) rfl ?_
            refine j_iload_n X dL_isInstrument_212 (q := 213) rfl 8 rfl ?_
            refine j_iadd X dL_isInstrument_213 (q := 214) rfl ?_
            refine j_tld X ho (by omega) dL_isInstrument_214 (q := 215) rfl ?_
            rw [(hA.2 z hz.1 hz.2).2.1]
            refine j_iload X dL_isInstrument_215 (q := 217) rfl 3 rfl ?_
            refine j_isub X dL_isInstrument_217 (q := 218) rfl ?_
            refine j_istore X (i := 9) dL_isInstrument_218 (by decide) (q := 220) rfl (lv' := [(9, .int (iI ((S 11 z) - (unc (S 14) (S 12) 12 z)))), (8, .int (iI (1))), (7, .int (iI (((S 12 z) * (S 12 z)) + (v_1 * v_1)))), (6, .int (iI (v_1))), (5, .int (iI (unc (S 14) (S 12) 12 z))), (4, .int (iI (fof (S 14) (inF S) 12 z))), (3, .int (iI (len (S 14) 12 z))), (0, .ref (ad 0 0)), (1, .ref (o)), (2, .int (iI (z)))]) (by first | rfl | simp [cat_rf, cat_i, cat_l, cat_r]) ?_
            refine j_iload X dL_isInstrument_220 (q := 222) rfl 1 rfl ?_
            refine j_if_eq X (tgt := 268) dL_isInstrument_222 (by decide) (q := 225) rfl (by omega) (fun c_222 => ?_) (fun c_222 => ?_)
            · skip
              exfalso; omega
            · skip
              refine j_aload_n X dL_isInstrument_225 (q := 226) rfl 7 rfl ?_
              refine j_iload_n X dL_isInstrument_226 (q := 227) rfl 9 rfl ?_
              refine j_callV X (As := [.int (iI (z))]) (st := []) hC.cal rfl (c_X3_limit hlt hC hI z (by omega)) sv_L_82 (by decide) rfl (by first | decide | exact Nat.le_of_ble_eq_true rfl | simp [cat_rf, cat_i, cat_l, cat_r]) dL_isInstrument_227 (by first | decide | exact ⟨by show _ ≤ (60 : Nat); omega, by show _ ≤ (360 : Nat); omega⟩) (fun _ _ hE => by exfalso; omega) ?_
              rintro v9 w9 ⟨-, rfl, rfl⟩
              refine j_st (st := [.int (iI (if 0 < S 11 z - unc (S 14) (S 12) 12 z then S 11 z - unc (S 14) (S 12) 12 z else 0))]) ?_
              obtain ⟨lm, hlm, hlm2⟩ := ite_lm (S 11 z - unc (S 14) (S 12) 12 z)
              rw [← hlm]
              have jn_v_3 : ∀ v_3 : Int, v_3 = lm → J p l e (Rm 15 60 360) s m args below meth c (vx_MQ below (Qn D base (fun v w' => v = some (.int (iI 1)) ∧ w = w')) (Xn D base (fun _ _ => False)) args s 60 360 (fun q => base ≤ q)) D base 10 41 246 241 [(9, .int (iI ((S 11 z) - (unc (S 14) (S 12) 12 z)))), (8, .int (iI (1))), (7, .int (iI (((S 12 z) * (S 12 z)) + (v_1 * v_1)))), (6, .int (iI (v_1))), (5, .int (iI (unc (S 14) (S 12) 12 z))), (4, .int (iI (fof (S 14) (inF S) 12 z))), (3, .int (iI (len (S 14) 12 z))), (0, .ref (ad 0 0)), (1, .ref (o)), (2, .int (iI (z)))] [.int (iI (v_3)), .int (iI (lm))] w := by
                intro v_3 hv_3
                refine j_icmp_ne X (tgt := 268) dL_isInstrument_241 (by decide) (q := 244) rfl (by omega) (by omega) (fun c_241 => ?_) (fun c_241 => ?_)
                · skip
                  exfalso; omega
                · skip
                  refine j_aload_n X dL_isInstrument_244 (q := 245) rfl 7 rfl ?_
                  refine j_iload_n X dL_isInstrument_245 (q := 246) rfl 9 rfl ?_
                  refine j_callV X (As := [.int (iI (z))]) (st := []) hC.cal rfl (c_X3_intervalOf hlt hC hI z (by omega)) sv_L_68 (by decide) rfl (by first | decide | exact Nat.le_of_ble_eq_true rfl | simp [cat_rf, cat_i, cat_l, cat_r]) dL_isInstrument_246 (by first | decide | exact ⟨by show _ ≤ (60 : Nat); omega, by show _ ≤ (360 : Nat); omega⟩) (fun _ _ hE => by exfalso; omega) ?_
                  rintro v9 w9 ⟨-, rfl, rfl⟩
                  refine j_st (st := [.int (iI (S 13 z))]) ?_
                  refine j_iconst X (a := 1) dL_isInstrument_249 (q := 250) rfl ?_
                  refine j_icmp_lt X (tgt := 268) dL_isInstrument_250 (by decide) (q := 253) rfl (by omega) (by omega) (fun c_250 => ?_) (fun c_250 => ?_)
                  · skip
                    exfalso; omega
                  · skip
                    refine j_aload_n X dL_isInstrument_253 (q := 254) rfl 7 rfl ?_
                    refine j_iload_n X dL_isInstrument_254 (q := 255) rfl 9 rfl ?_
                    refine j_callV X (As := [.int (iI (z))]) (st := []) hC.cal rfl (c_X3_intervalOf hlt hC hI z (by omega)) sv_L_68 (by decide) rfl (by first | decide | exact Nat.le_of_ble_eq_true rfl | simp [cat_rf, cat_i, cat_l, cat_r]) dL_isInstrument_255 (by first | decide | exact ⟨by show _ ≤ (60 : Nat); omega, by show _ ≤ (360 : Nat); omega⟩) (fun _ _ hE => by exfalso; omega) ?_
                    rintro v9 w9 ⟨-, rfl, rfl⟩
                    refine j_st (st := [.int (iI (S 13 z))]) ?_
                    refine j_sipush X (a := 999) (by decide +kernel) dL_isInstrument_258 (q := 261) rfl ?_
                    refine j_icmp_gt X (tgt := 268) dL_isInstrument_261 (by decide) (q := 264) rfl (by omega) (by omega) (fun c_261 => ?_) (fun c_261 => ?_)
                    · skip
                      exfalso; omega
                    · skip
                      refine j_iconst X (a := 1) dL_isInstrument_264 (q := 265) rfl ?_
                      refine j_goto X (tgt := 269) dL_isInstrument_265 (by decide) ?_
                      refine j_istore X (i := 8) dL_isInstrument_269 (by decide) (q := 271) rfl (lv' := [(8, .int (iI (1))), (9, .int (iI ((S 11 z) - (unc (S 14) (S 12) 12 z)))), (7, .int (iI (((S 12 z) * (S 12 z)) + (v_1 * v_1)))), (6, .int (iI (v_1))), (5, .int (iI (unc (S 14) (S 12) 12 z))), (4, .int (iI (fof (S 14) (inF S) 12 z))), (3, .int (iI (len (S 14) 12 z))), (0, .ref (ad 0 0)), (1, .ref (o)), (2, .int (iI (z)))]) (by first | rfl | simp [cat_rf, cat_i, cat_l, cat_r]) ?_
                      refine j_aload_n X dL_isInstrument_271 (q := 272) rfl 7 rfl ?_
                      refine j_iload_n X dL_isInstrument_272 (q := 273) rfl 9 rfl ?_
                      refine j_callV X (As := [.int (iI (z))]) (st := []) hC.cal rfl (c_X3_dueOf hlt hC hI z (by omega)) sv_L_22 (by decide) rfl (by first | decide | exact Nat.le_of_ble_eq_true rfl | simp [cat_rf, cat_i, cat_l, cat_r]) dL_isInstrument_273 (by first | decide | exact ⟨by show _ ≤ (60 : Nat); omega, by show _ ≤ (360 : Nat); omega⟩) (fun _ _ hE => by exfalso; omega) ?_
                      rintro v9 w9 ⟨-, rfl, rfl⟩
                      refine j_st (st := [.int (iI (if S 15 z < 0 then -1 else S 21 (S 15 z) + S 13 z))]) ?_
                      obtain ⟨du, hdu, hdu2⟩ := du_spec hI hz
                      rw [← hdu]
                      refine j_iconst X (a := -1) dL_isInstrument_276 (q := 277) rfl ?_
                      refine j_icmp_ne X (tgt := 328) dL_isInstrument_277 (by decide) (q := 280) rfl (by omega) (by omega) (fun c_277 => ?_) (fun c_277 => ?_)
                      · skip
                        refine j_iload X dL_isInstrument_328 (q := 330) rfl 0 rfl ?_
                        refine j_if_eq X (tgt := 346) dL_isInstrument_330 (by decide) (q := 333) rfl (by omega) (fun c_330 => ?_) (fun c_330 => ?_)
                        · skip
                          exfalso; omega
                        · skip
                          refine j_aload_n X dL_isInstrument_333 (q := 334) rfl 7 rfl ?_
                          refine j_aload_n X dL_isInstrument_334 (q := 335) rfl 8 rfl ?_
                          refine j_iload_n X dL_isInstrument_335 (q := 336) rfl 9 rfl ?_
                          refine j_callS X (As := [.ref (ad 0 0), .ref (o), .int (iI (z))]) (st := []) (c_L_isDrift hlt hC hS ho hA z hz (by omega)) ss_L_95 (by decide) rfl (by first | decide | exact Nat.le_of_ble_eq_true rfl) dL_isInstrument_336 (by first | decide | exact ⟨by show _ ≤ (60 : Nat); omega, by show _ ≤ (360 : Nat); omega⟩) (fun _ _ h => h.elim) ?_
                          rintro v9 w9 ⟨rfl, rfl⟩
                          refine j_st (st := [.int (iI (1))]) ?_
                          refine j_if_eq X (tgt := 346) dL_isInstrument_339 (by decide) (q := 342) rfl (by omega) (fun c_339 => ?_) (fun c_339 => ?_)
                          · skip
                            exfalso; omega
                          · skip
                            refine j_iconst X (a := 1) dL_isInstrument_342 (q := 343) rfl ?_
                            refine j_goto X (tgt := 347) dL_isInstrument_343 (by decide) ?_
                            exact j_zret X rfl (Or.inr rfl) dL_isInstrument_347 (⟨rfl, rfl⟩) (by first | decide | omega) (by first | decide | omega)
                      · skip
                        refine j_iload X dL_isInstrument_280 (q := 282) rfl 0 rfl ?_
                        refine j_if_eq X (tgt := 326) dL_isInstrument_282 (by decide) (q := 285) rfl (by omega) (fun c_282 => ?_) (fun c_282 => ?_)
                        · skip
                          exfalso; omega
                        · skip
                          refine j_aload_n X dL_isInstrument_285 (q := 286) rfl 7 rfl ?_
                          refine j_iload_n X dL_isInstrument_286 (q := 287) rfl 9 rfl ?_
                          refine j_callV X (As := [.int (iI (z))]) (st := []) hC.cal rfl (c_X3_driftsOut hlt hC hI z (by omega)) sv_L_85 (by decide) rfl (by first | decide | exact Nat.le_of_ble_eq_true rfl | simp [cat_rf, cat_i, cat_l, cat_r]) dL_isInstrument_287 (by first | decide | exact ⟨by show _ ≤ (60 : Nat); omega, by show _ ≤ (360 : Nat); omega⟩) (fun _ _ hE => by exfalso; omega) ?_
                          rintro v9 w9 ⟨-, rfl, rfl⟩
                          refine j_st (st := [.int (iI (drS S z))]) ?_
                          rw [show (drS S z : Int) = -1 from by rw [drS, if_pos (by omega)]]
                          refine j_iconst X (a := -1) dL_isInstrument_290 (q := 291) rfl ?_
                          refine j_icmp_ne X (tgt := 326) dL_isInstrument_291 (by decide) (q := 294) rfl (by omega) (by omega) (fun c_291 => ?_) (fun c_291 => ?_)
                          · skip
                            exfalso; omega
                          · skip
                            refine j_aload_n X dL_isInstrument_294 (q := 295) rfl 7 rfl ?_
                            refine j_iload_n X dL_isInstrument_295 (q := 296) rfl 9 rfl ?_
                            refine j_callV X (As := [.int (iI (z))]) (st := []) hC.cal rfl (c_X3_atStake hlt hC hI z (by omega)) sv_L_56 (by decide) rfl (by first | decide | exact Nat.le_of_ble_eq_true rfl | simp [cat_rf, cat_i, cat_l, cat_r]) dL_isInstrument_296 (by first | decide | exact ⟨by show _ ≤ (60 : Nat); omega, by show _ ≤ (360 : Nat); omega⟩) (fun _ _ hE => by exfalso; omega) ?_
                            rintro v9 w9 ⟨-, rfl, rfl⟩
                            refine j_st (st := [.int (iI (if S 15 z < 0 then 0 else sm (stk S (S 15 z)) nm.toNat))]) ?_
                            rw [show (if S 15 z < 0 then 0 else sm (stk S (S 15 z)) nm.toNat : Int) = 0 from if_pos (by omega)]
                            refine j_if_ne X (tgt := 326) dL_isInstrument_299 (by decide) (q := 302) rfl (by omega) (fun c_299 => ?_) (fun c_299 => ?_)
                            · skip
                              exfalso; omega
                            · skip
                              refine j_aload_n X dL_isInstrument_302 (q := 303) rfl 7 rfl ?_
                              refine j_iload_n X dL_isInstrument_303 (q := 304) rfl 9 rfl ?_
                              refine j_iconst X (a := 3) dL_isInstrument_304 (q := 305) rfl ?_
                              refine j_callV X (As := [.int (iI (z)), .int (iI (3))]) (st := []) hC.cal rfl (c_X3_benchDay hlt hC hI z (by omega) 3 (by omega)) sv_L_88 (by decide) rfl (by first | decide | exact Nat.le_of_ble_eq_true rfl | simp [cat_rf, cat_i, cat_l, cat_r]) dL_isInstrument_305 (by first | decide | exact ⟨by show _ ≤ (60 : Nat); omega, by show _ ≤ (360 : Nat); omega⟩) (fun _ _ hE => by exfalso; omega) ?_
                              rintro v9 w9 ⟨-, rfl, rfl⟩
                              refine j_st (st := [.int (iI (if S 15 z < 0 then -1 else S 7 0 + (ahd S z).tdiv 3))]) ?_
                              rw [show (if S 15 z < 0 then -1 else S 7 0 + (ahd S z).tdiv 3 : Int) = -1 from if_pos (by omega)]
                              refine j_iconst X (a := -1) dL_isInstrument_308 (q := 309) rfl ?_
                              refine j_icmp_ne X (tgt := 326) dL_isInstrument_309 (by decide) (q := 312) rfl (by omega) (by omega) (fun c_309 => ?_) (fun c_309 => ?_)
                              · skip
                                exfalso; omega
                              · skip
                                refine j_aload_n X dL_isInstrument_312 (q := 313) rfl 7 rfl ?_
                                refine j_iload_n X dL_isInstrument_313 (q := 314) rfl 9 rfl ?_
                                refine j_callV X (As := [.int (iI (z))]) (st := []) hC.cal rfl (c_X3_slope hlt hC hI z (by omega)) sv_L_91 (by decide) rfl (by first | decide | exact Nat.le_of_ble_eq_true rfl | simp [cat_rf, cat_i, cat_l, cat_r]) dL_isInstrument_314 (by first | decide | exact ⟨by show _ ≤ (60 : Nat); omega, by show _ ≤ (360 : Nat); omega⟩) (fun _ _ hE => by exfalso; omega) ?_
                                rintro v9 w9 ⟨-, rfl, rfl⟩
                                refine j_st (st := [.double (slP (S 17 z) (S 18 z))]) ?_
                                have h18 := hS.sl_n hz (by omega)
                                obtain ⟨cz, hcz, hcb, -, -, hc0⟩ := slope_sgn i17 i18.2
                                have hcz0 := hc0 (by omega)
                                refine j_dconst0 X dL_isInstrument_317 (q := 318) rfl ?_
                                refine j_dcmp X dL_isInstrument_318 (q := 319) rfl ?_
                                rw [hcz]
                                refine j_if_ne X (tgt := 326) dL_isInstrument_319 (by decide) (q := 322) rfl (by omega) (fun c_319 => ?_) (fun c_319 => ?_)
                                · skip
                                  exfalso; omega
                                · skip
                                  refine j_iconst X (a := 1) dL_isInstrument_322 (q := 323) rfl ?_
                                  refine j_goto X (tgt := 327) dL_isInstrument_323 (by decide) ?_
                                  exact j_zret X rfl (Or.inr rfl) dL_isInstrument_327 (⟨rfl, rfl⟩) (by first | decide | omega) (by first | decide | omega)
              refine j_iload X dL_isInstrument_230 (q := 232) rfl 0 rfl ?_
              refine j_if_ge X (tgt := 239) dL_isInstrument_232 (by decide) (q := 235) rfl (by omega) (fun c_232 => ?_) (fun c_232 => ?_)
              · skip
                refine j_iload X dL_isInstrument_239 (q := 241) rfl 0 rfl ?_
                exact j_widen (by omega) (by omega) (jn_v_3 _ (by omega))
              · skip
                refine j_iconst X (a := 0) dL_isInstrument_235 (q := 236) rfl ?_
                refine j_goto X (tgt := 241) dL_isInstrument_236 (by decide) ?_
                exact j_widen (by omega) (by omega) (jn_v_3 _ (by omega))
          refine j_aload_n X dL_isInstrument_152 (q := 153) rfl 6 rfl ?_
          refine j_iload_n X dL_isInstrument_153 (q := 154) rfl 7 rfl ?_
          refine j_tld X ho (by omega) dL_isInstrument_154 (q := 155) rfl ?_
          rw [(hA.2 z hz.1 hz.2).1]
          refine j_iconst X (a := -1) dL_isInstrument_155 (q := 156) rfl ?_
          refine j_icmp_ne X (tgt := 173) dL_isInstrument_156 (by decide) (q := 159) rfl (by omega) (by omega) (fun c_156 => ?_) (fun c_156 => ?_)
          · skip
            refine j_iload X dL_isInstrument_173 (q := 175) rfl 2 rfl ?_
            refine j_iload X dL_isInstrument_175 (q := 177) rfl 2 rfl ?_
            refine j_imul X dL_isInstrument_177 (q := 178) rfl ?_
            refine j_iload X dL_isInstrument_178 (q := 180) rfl 0 rfl ?_
            refine j_icmp_lt X (tgt := 206) dL_isInstrument_180 (by decide) (q := 183) rfl (by omega) (by omega) (fun c_180 => ?_) (fun c_180 => ?_)
            · skip
              exfalso; omega
            · skip
              refine j_iload X dL_isInstrument_183 (q := 185) rfl 2 rfl ?_
              refine j_if_eq X (tgt := 202) dL_isInstrument_185 (by decide) (q := 188) rfl (by omega) (fun c_185 => ?_) (fun c_185 => ?_)
              · skip
                exact j_widen (by omega) (by omega) mt_v_2
              · skip
                have hs4 := sq_r (A := 12000) (show 0 ≤ unc (S 14) (S 12) 12 z - 1 ∧ unc (S 14) (S 12) 12 z - 1 ≤ 12000 by omega)
                refine j_iload X dL_isInstrument_188 (q := 190) rfl 2 rfl ?_
                refine j_iconst X (a := 1) dL_isInstrument_190 (q := 191) rfl ?_
                refine j_isub X dL_isInstrument_191 (q := 192) rfl ?_
                refine j_iload X dL_isInstrument_192 (q := 194) rfl 2 rfl ?_
                refine j_iconst X (a := 1) dL_isInstrument_194 (q := 195) rfl ?_
                refine j_isub X dL_isInstrument_195 (q := 196) rfl ?_
                refine j_imul X dL_isInstrument_196 (q := 197) rfl ?_
                refine j_iload X dL_isInstrument_197 (q := 199) rfl 0 rfl ?_
                refine j_icmp_ge X (tgt := 206) dL_isInstrument_199 (by decide) (q := 202) rfl (by omega) (by omega) (fun c_199 => ?_) (fun c_199 => ?_)
                · skip
                  exfalso; omega
                · skip
                  exact j_widen (by omega) (by omega) mt_v_2
          · skip
            refine j_iload X dL_isInstrument_159 (q := 161) rfl 2 rfl ?_
            refine j_aload_n X dL_isInstrument_161 (q := 162) rfl 6 rfl ?_
            refine j_bipush X (a := 24) (by decide +kernel) dL_isInstrument_162 (q := 164) rfl ?_
            refine j_iload_n X dL_isInstrument_164 (q := 165) rfl 7 rfl ?_
            refine j_iadd X dL_isInstrument_165 (q := 166) rfl ?_
            refine j_tld X ho (by omega) dL_isInstrument_166 (q := 167) rfl ?_
            rw [(hA.2 z hz.1 hz.2).2.2]
            refine j_icmp_ne X (tgt := 206) dL_isInstrument_167 (by decide) (q := 170) rfl (by omega) (by omega) (fun c_167 => ?_) (fun c_167 => ?_)
            · skip
              have hv0 : v_1 = 0 := by rw [hv_1]; exact unc_n (by omega)
              rw [hv0, rt_sq i2] at hu12
              exact absurd hu12 c_167
            · skip
              refine j_goto X (tgt := 202) dL_isInstrument_170 (by decide) ?_
              exact j_widen (by omega) (by omega) mt_v_2
    refine j_aload_n X dL_isInstrument_92 (q := 93) rfl 4 rfl ?_
    refine j_iload_n X dL_isInstrument_93 (q := 94) rfl 5 rfl ?_
    refine j_tld X ho (by omega) dL_isInstrument_94 (q := 95) rfl ?_
    rw [(hA.2 z hz.1 hz.2).1]
    refine j_iconst X (a := -1) dL_isInstrument_95 (q := 96) rfl ?_
    refine j_icmp_ne X (tgt := 103) dL_isInstrument_96 (by decide) (q := 99) rfl (by omega) (by omega) (fun c_96 => ?_) (fun c_96 => ?_)
    · skip
      refine j_aload_n X dL_isInstrument_103 (q := 104) rfl 3 rfl ?_
      refine j_aload_n X dL_isInstrument_104 (q := 105) rfl 4 rfl ?_
      refine j_iload_n X dL_isInstrument_105 (q := 106) rfl 5 rfl ?_
      refine j_tld X ho (by omega) dL_isInstrument_106 (q := 107) rfl ?_
      rw [(hA.2 z hz.1 hz.2).1]
      have hz2 : 0 ≤ S 14 z ∧ S 14 z < n := by omega
      refine j_callV X (As := [.int (iI (S 14 z))]) (st := []) hC.cal rfl (c_X3_uncertainty hlt hC hI (S 14 z) (by omega)) sv_L_79 (by decide) rfl (by first | decide | exact Nat.le_of_ble_eq_true rfl | simp [cat_rf, cat_i, cat_l, cat_r]) dL_isInstrument_107 (by first | decide | exact ⟨by show _ ≤ (60 : Nat); omega, by show _ ≤ (360 : Nat); omega⟩) (fun _ _ hE => by exfalso; omega) ?_
      rintro v9 w9 ⟨-, rfl, rfl⟩
      refine j_st (st := [.int (iI (unc (S 14) (S 12) 12 (S 14 z)))]) ?_
      exact j_widen (by omega) (by omega) (jn_v_1 _ (rfl))
    · skip
      refine j_iconst X (a := 0) dL_isInstrument_99 (q := 100) rfl ?_
      refine j_goto X (tgt := 110) dL_isInstrument_100 (by decide) ?_
      exact j_widen (by omega) (by omega) (jn_v_1 _ ((unc_n (by omega)).symm))
  have loop : ∀ (j m9 : Nat) (at9 c9 f9 : Int), m9 + j = 12 → (-1 ≤ at9 ∧ at9 < n) → ends (S 14) j at9 → c9 + len (S 14) j at9 = len (S 14) 12 z → (0 ≤ c9 ∧ c9 ≤ m9) → ((f9 = -1 ∧ fof (S 14) (inF S) 12 z = fof (S 14) (inF S) j at9) ∨ ((0 ≤ f9 ∧ f9 < n) ∧ fof (S 14) (inF S) 12 z = f9)) → J p l e (Rm 15 60 360) s m args below meth c (vx_MQ below (Qn D base (fun v w' => v = some (.int (iI 1)) ∧ w = w')) (Xn D base (fun _ _ => False)) args s 60 360 (fun q => base ≤ q)) D base 10 (3 * m9) (18 * m9) 8 [(5, .int (iI at9)), (4, .int (iI f9)), (3, .int (iI c9)), (0, .ref (ad 0 0)), (1, .ref o), (2, .int (iI z))] [] w := by
    intro j
    induction j with
    | zero =>
      intro m9 at9 c9 f9 hm hat hends hc9 hcb hf9
      refine j_iload X dL_isInstrument_8 (q := 10) rfl 0 rfl ?_
      refine j_iconst X (a := -1) dL_isInstrument_10 (q := 11) rfl ?_
      refine j_icmp_eq X (tgt := 85) dL_isInstrument_11 (by decide) (q := 14) rfl (by omega) (by omega) (fun c_11 => ?_) (fun c_11 => ?_)
      · skip
        rw [len_n (u := at9) (by omega)] at hc9
        rw [fof_n (u := at9) (by omega)] at hf9
        have e1 : c9 = len (S 14) 12 z := by omega
        have e2 : f9 = fof (S 14) (inF S) 12 z := by omega
        rw [e1, e2]
        exact j_widen (by omega) (by omega) (j_lv aft [1, 2, 3, 4, 5] rfl)
      · skip
        exact absurd (ends_0 hends) (by omega)
    | succ j ih =>
      intro m9 at9 c9 f9 hm hat hends hc9 hcb hf9
      refine j_iload X dL_isInstrument_8 (q := 10) rfl 0 rfl ?_
      refine j_iconst X (a := -1) dL_isInstrument_10 (q := 11) rfl ?_
      refine j_icmp_eq X (tgt := 85) dL_isInstrument_11 (by decide) (q := 14) rfl (by omega) (by omega) (fun c_11 => ?_) (fun c_11 => ?_)
      · skip
        rw [len_n (u := at9) (by omega)] at hc9
        rw [fof_n (u := at9) (by omega)] at hf9
        have e1 : c9 = len (S 14) 12 z := by omega
        have e2 : f9 = fof (S 14) (inF S) 12 z := by omega
        rw [e1, e2]
        exact j_widen (by omega) (by omega) (j_lv aft [1, 2, 3, 4, 5] rfl)
      · skip
        have hz9 : 0 ≤ at9 ∧ at9 < n := by omega
        have hrr := (hI.ins hz9.1 hz9.2).2.2.2.2.1
        have hend2 := ends_st hends hz9.1
        rw [len_s hz9.1] at hc9
        refine j_iinc X dL_isInstrument_14 2 rfl (by decide) (q := 17) rfl (lv' := [(3, .int (iI (c9 + 1))), (5, .int (iI (at9))), (4, .int (iI (f9))), (0, .ref (ad 0 0)), (1, .ref (o)), (2, .int (iI (z)))]) (by first | rfl | simp [cat_rf, cat_i, cat_l, cat_r]) ?_
        have jn_v_4 : ∀ v_4 : Int, v_4 = inF S at9 → J p l e (Rm 15 60 360) s m args below meth c (vx_MQ below (Qn D base (fun v w' => v = some (.int (iI 1)) ∧ w = w')) (Xn D base (fun _ _ => False)) args s 60 360 (fun q => base ≤ q)) D base 10 (3 * m9 + 3) (18 * m9 + 18) 54 [(3, .int (iI (c9 + 1))), (5, .int (iI (at9))), (4, .int (iI (f9))), (0, .ref (ad 0 0)), (1, .ref (o)), (2, .int (iI (z)))] [.int (iI (v_4))] w := by
          intro v_4 hv_4
          have hvb := inF_b S at9
          rw [← hv_4] at hvb
          refine j_istore X (i := 6) dL_isInstrument_54 (by decide) (q := 56) rfl (lv' := [(6, .int (iI (v_4))), (3, .int (iI (c9 + 1))), (5, .int (iI (at9))), (4, .int (iI (f9))), (0, .ref (ad 0 0)), (1, .ref (o)), (2, .int (iI (z)))]) (by first | rfl | simp [cat_rf, cat_i, cat_l, cat_r]) ?_
          have jn_v_5 : ∀ v_5 : Int, ((f9 = -1 ∧ v_4 = 0 ∧ v_5 = at9) ∨ (¬ (f9 = -1 ∧ v_4 = 0) ∧ v_5 = f9)) → J p l e (Rm 15 60 360) s m args below meth c (vx_MQ below (Qn D base (fun v w' => v = some (.int (iI 1)) ∧ w = w')) (Xn D base (fun _ _ => False)) args s 60 360 (fun q => base ≤ q)) D base 10 (3 * m9 + 3) (18 * m9 + 18) 74 [(6, .int (iI (v_4))), (3, .int (iI (c9 + 1))), (5, .int (iI (at9))), (4, .int (iI (f9))), (0, .ref (ad 0 0)), (1, .ref (o)), (2, .int (iI (z)))] [.int (iI (v_5))] w := by
            intro v_5 hv_5
            refine j_istore X (i := 4) dL_isInstrument_74 (by decide) (q := 76) rfl (lv' := [(4, .int (iI (v_5))), (6, .int (iI (v_4))), (3, .int (iI (c9 + 1))), (5, .int (iI (at9))), (0, .ref (ad 0 0)), (1, .ref (o)), (2, .int (iI (z)))]) (by first | rfl | simp [cat_rf, cat_i, cat_l, cat_r]) ?_
            refine j_aload_n X dL_isInstrument_76 (q := 77) rfl 5 rfl ?_
            refine j_iload X dL_isInstrument_77 (q := 79) rfl 3 rfl ?_
            refine j_tld X ho (by omega) dL_isInstrument_79 (q := 80) rfl ?_
            rw [(hA.2 at9 hz9.1 hz9.2).1]
            refine j_istore X (i := 5) dL_isInstrument_80 (by decide) (q := 82) rfl (lv' := [(5, .int (iI (S 14 at9))), (4, .int (iI (v_5))), (6, .int (iI (v_4))), (3, .int (iI (c9 + 1))), (0, .ref (ad 0 0)), (1, .ref (o)), (2, .int (iI (z)))]) (by first | rfl | simp [cat_rf, cat_i, cat_l, cat_r]) ?_
            refine j_goto X (tgt := 8) dL_isInstrument_82 (by decide) ?_
            refine j_widen (by omega) (by omega) (j_lv (ih (m9 + 1) (S 14 at9) (c9 + 1) v_5 (by omega) hrr hend2 (by omega) (by omega) ?_) [0, 1, 3, 4, 5, 6] rfl)
            rcases hv_5 with ⟨q1, q2, q3⟩ | ⟨q1, q3⟩
            · refine Or.inr ⟨by omega, ?_⟩
              rcases hf9 with ⟨_, r⟩ | r
              · rw [r, fof_e hz9.1 (by omega)]; exact q3.symm
              · omega
            · rcases hf9 with ⟨r1, r2⟩ | r
              · refine Or.inl ⟨by omega, ?_⟩
                rw [r2, fof_s hz9.1 (by omega)]
              · exact Or.inr ⟨by omega, by omega⟩
          refine j_iload X dL_isInstrument_56 (q := 58) rfl 3 rfl ?_
          refine j_iconst X (a := -1) dL_isInstrument_58 (q := 59) rfl ?_
          refine j_icmp_ne X (tgt := 72) dL_isInstrument_59 (by decide) (q := 62) rfl (by omega) (by omega) (fun c_59 => ?_) (fun c_59 => ?_)
          · skip
            refine j_iload X dL_isInstrument_72 (q := 74) rfl 3 rfl ?_
            exact j_widen (by omega) (by omega) (jn_v_5 _ (by omega))
          · skip
            refine j_iload X dL_isInstrument_62 (q := 64) rfl 0 rfl ?_
            refine j_if_ne X (tgt := 72) dL_isInstrument_64 (by decide) (q := 67) rfl (by omega) (fun c_64 => ?_) (fun c_64 => ?_)
            · skip
              refine j_iload X dL_isInstrument_72 (q := 74) rfl 3 rfl ?_
              exact j_widen (by omega) (by omega) (jn_v_5 _ (by omega))
            · skip
              refine j_iload X dL_isInstrument_67 (q := 69) rfl 2 rfl ?_
              refine j_goto X (tgt := 74) dL_isInstrument_69 (by decide) ?_
              exact j_widen (by omega) (by omega) (jn_v_5 _ (by omega))
        refine j_aload_n X dL_isInstrument_17 (q := 18) rfl 3 rfl ?_
        refine j_iload X dL_isInstrument_18 (q := 20) rfl 1 rfl ?_
        refine j_callV X (As := [.int (iI (at9))]) (st := []) hC.cal rfl (c_X3_dueOf hlt hC hI at9 (by omega)) sv_L_22 (by decide) rfl (by first | decide | exact Nat.le_of_ble_eq_true rfl | simp [cat_rf, cat_i, cat_l, cat_r]) dL_isInstrument_20 (by first | decide | exact ⟨by show _ ≤ (60 : Nat); omega, by show _ ≤ (360 : Nat); omega⟩) (fun _ _ hE => by exfalso; omega) ?_
        rintro v9 w9 ⟨-, rfl, rfl⟩
        refine j_st (st := [.int (iI (if S 15 at9 < 0 then -1 else S 21 (S 15 at9) + S 13 at9))]) ?_
        obtain ⟨du, hdu, hdu2⟩ := du_spec hI hz9
        rw [← hdu]
        refine j_iconst X (a := -1) dL_isInstrument_23 (q := 24) rfl ?_
        refine j_icmp_eq X (tgt := 53) dL_isInstrument_24 (by decide) (q := 27) rfl (by omega) (by omega) (fun c_24 => ?_) (fun c_24 => ?_)
        · skip
          refine j_iconst X (a := 0) dL_isInstrument_53 (q := 54) rfl ?_
          exact j_widen (by omega) (by omega) (jn_v_4 _ (inF_0 (fun q => by first | omega | (have := hsp2 (by omega); omega))))
        · skip
          refine j_aload_n X dL_isInstrument_27 (q := 28) rfl 3 rfl ?_
          refine j_callV X (As := []) (st := []) hC.cal rfl (c_X3_today hlt hC hI ) sv_L_43 (by decide) rfl (by first | decide | exact Nat.le_of_ble_eq_true rfl | simp [cat_rf, cat_i, cat_l, cat_r]) dL_isInstrument_28 (by first | decide | exact ⟨by show _ ≤ (60 : Nat); omega, by show _ ≤ (360 : Nat); omega⟩) (fun _ _ hE => hE.elim) ?_
          rintro v9 w9 ⟨rfl, rfl⟩
          refine j_st (st := [.int (iI (S 7 0))]) ?_
          refine j_aload_n X dL_isInstrument_31 (q := 32) rfl 3 rfl ?_
          refine j_iload X dL_isInstrument_32 (q := 34) rfl 1 rfl ?_
          refine j_callV X (As := [.int (iI (at9))]) (st := [.int (iI (S 7 0))]) hC.cal rfl (c_X3_dueOf hlt hC hI at9 (by omega)) sv_L_22 (by decide) rfl (by first | decide | exact Nat.le_of_ble_eq_true rfl | simp [cat_rf, cat_i, cat_l, cat_r]) dL_isInstrument_34 (by first | decide | exact ⟨by show _ ≤ (60 : Nat); omega, by show _ ≤ (360 : Nat); omega⟩) (fun _ _ hE => by exfalso; omega) ?_
          rintro v9 w9 ⟨-, rfl, rfl⟩
          refine j_st (st := [.int (iI (if S 15 at9 < 0 then -1 else S 21 (S 15 at9) + S 13 at9)), .int (iI (S 7 0))]) ?_
          obtain ⟨du1, hdu1, hdu3⟩ := du_spec hI hz9
          rw [← hdu1]
          refine j_icmp_gt X (tgt := 53) dL_isInstrument_37 (by decide) (q := 40) rfl (by omega) (by omega) (fun c_37 => ?_) (fun c_37 => ?_)
          · skip
            refine j_iconst X (a := 0) dL_isInstrument_53 (q := 54) rfl ?_
            exact j_widen (by omega) (by omega) (jn_v_4 _ (inF_0 (fun q => by first | omega | (have := hsp2 (by omega); omega))))
          · skip
            refine j_aload_n X dL_isInstrument_40 (q := 41) rfl 3 rfl ?_
            refine j_iload X dL_isInstrument_41 (q := 43) rfl 1 rfl ?_
            refine j_callV X (As := [.int (iI (at9))]) (st := []) hC.cal rfl (c_X3_isSuspect hlt hC hI at9 (by omega)) sv_L_26 (by decide) rfl (by first | decide | exact Nat.le_of_ble_eq_true rfl | simp [cat_rf, cat_i, cat_l, cat_r]) dL_isInstrument_43 (by first | decide | exact ⟨by show _ ≤ (60 : Nat); omega, by show _ ≤ (360 : Nat); omega⟩) (fun _ _ hE => by exfalso; omega) ?_
            rintro v9 w9 ⟨-, rfl, rfl⟩
            refine j_st (st := [.int (iI (tf (0 ≤ S 15 at9 ∧ S 26 (S 15 at9) = 1)))]) ?_
            obtain ⟨sp, hsp, hspb, hsp2⟩ := sp_spec hI hz9
            rw [← hsp]
            refine j_if_ne X (tgt := 53) dL_isInstrument_46 (by decide) (q := 49) rfl (by omega) (fun c_46 => ?_) (fun c_46 => ?_)
            · skip
              refine j_iconst X (a := 0) dL_isInstrument_53 (q := 54) rfl ?_
              exact j_widen (by omega) (by omega) (jn_v_4 _ (inF_0 (fun q => by first | omega | (have := hsp2 (by omega); omega))))
            · skip
              refine j_iconst X (a := 1) dL_isInstrument_49 (q := 50) rfl ?_
              refine j_goto X (tgt := 54) dL_isInstrument_50 (by decide) ?_
              exact j_widen (by omega) (by omega) (jn_v_4 _ (inF_1 (by rw [hsp2 (by omega)]; omega)))
  refine j_iconst X (a := 0) dL_isInstrument_0 (q := 1) rfl ?_
  refine j_istore_n X (i := 3) dL_isInstrument_1 rfl (by decide) (q := 2) rfl (lv' := [(3, .int (iI (0))), (0, .ref (ad 0 0)), (1, .ref (o)), (2, .int (iI (z)))]) (by first | rfl | simp [cat_rf, cat_i, cat_l, cat_r]) ?_
  refine j_iconst X (a := -1) dL_isInstrument_2 (q := 3) rfl ?_
  refine j_istore X (i := 4) dL_isInstrument_3 (by decide) (q := 5) rfl (lv' := [(4, .int (iI (-1))), (3, .int (iI (0))), (0, .ref (ad 0 0)), (1, .ref (o)), (2, .int (iI (z)))]) (by first | rfl | simp [cat_rf, cat_i, cat_l, cat_r]) ?_
  refine j_iload_n X dL_isInstrument_5 (q := 6) rfl 4 rfl ?_
  refine j_istore X (i := 5) dL_isInstrument_6 (by decide) (q := 8) rfl (lv' := [(5, .int (iI (z))), (4, .int (iI (-1))), (3, .int (iI (0))), (0, .ref (ad 0 0)), (1, .ref (o)), (2, .int (iI (z)))]) (by first | rfl | simp [cat_rf, cat_i, cat_l, cat_r]) ?_
  exact j_lv (loop 12 0 z 0 (-1) rfl (by omega) hen (by omega) (by omega) (Or.inl ⟨rfl, rfl⟩)) [0, 1, 2, 3, 4, 5] rfl
