set_option maxRecDepth 100000 in
set_option maxHeartbeats 4000000 in
theorem c_L_isBeyond {l : Launch} (hlt : l.stackTraces = false) {D : va_G} {ca : Nat → ClassId} {base : Nat} {ad : Nat → Int → Nat} {cn n nc nm : Int} {S T : St} {w : Wd} (hC : CW base ca ad n nc nm S w) (hS : Sim cn n nc nm S T) {o : Nat} {g : Int → Int} (ho : w o = some (eT ca g)) (hA : TA n S g) (z dd : Int) (hz : 0 ≤ z ∧ z < n) (hd : 0 ≤ dd ∧ dd ≤ 9999) (hF : 0 ≤ S 15 z) : CT l D ca base yL_isBeyond cL_isBeyond 6 (some .boolean) 3 2 12 [.ref (ad 0 0), .ref (o), .int (iI (z)), .int (iI (dd))] w (fun v w' => v = some (.int (iI (oS S z (S 15 z) dd))) ∧ w = w') (fun _ _ => False) := by
  have hI := hS.1
  obtain ⟨hn, hnc, hnm, e3, e4, e5, h6, h7, h8⟩ := hI.top
  refine CT.mk hlt (by decide +kernel) (by first | exact Nat.le_of_ble_eq_true rfl | simp [lg_sl, cat_rf, cat_i, cat_l, cat_r]) ?_
  intro p e s m args below meth c X htab
  rw [show lv_args 0 [.ref (ad 0 0), .ref (o), .int (iI (z)), .int (iI (dd))] = [(0, .ref (ad 0 0)), (1, .ref (o)), (2, .int (iI (z))), (3, .int (iI (dd)))] from by first | rfl | simp [lv_args, cat_rf, cat_i, cat_l, cat_r]]
  have hbE := errS_b hI hz ⟨hF, (hI.ins hz.1 hz.2).2.2.2.2.2.1.2⟩ hd
  have h11 := (hI.ins hz.1 hz.2).2.1
  refine j_aload_n X dL_isBeyond_0 (q := 1) rfl 0 rfl ?_
  refine j_iload_n X dL_isBeyond_1 (q := 2) rfl 2 rfl ?_
  refine j_iload_n X dL_isBeyond_2 (q := 3) rfl 3 rfl ?_
  refine j_callV X (As := [.int (iI (z)), .int (iI (dd))]) (st := []) hC.cal rfl (c_X3_expected hlt hC hI z (by omega) dd (by omega)) sv_L_75 (by decide) rfl (by first | decide | exact Nat.le_of_ble_eq_true rfl | simp [cat_rf, cat_i, cat_l, cat_r]) dL_isBeyond_3 (by first | decide | exact ⟨by show _ ≤ (2 : Nat); omega, by show _ ≤ (12 : Nat); omega⟩) (fun _ _ hE => by exfalso; omega) ?_
  rintro v9 w9 ⟨-, rfl, rfl⟩
  refine j_st (st := [.long (iL (errS S z (S 15 z) dd))]) ?_
  refine j_lstore X (i := 4) dL_isBeyond_6 (by decide) (q := 8) rfl (lv' := [(4, .long (iL (errS S z (S 15 z) dd))), (0, .ref (ad 0 0)), (1, .ref (o)), (2, .int (iI (z))), (3, .int (iI (dd)))]) (by first | rfl | simp [cat_rf, cat_i, cat_l, cat_r]) ?_
  refine j_lload X dL_isBeyond_8 (q := 10) rfl 0 rfl ?_
  refine j_aload_n X dL_isBeyond_10 (q := 11) rfl 2 rfl ?_
  refine j_bipush X (a := 12) (by decide +kernel) dL_isBeyond_11 (q := 13) rfl ?_
  refine j_iload_n X dL_isBeyond_13 (q := 14) rfl 3 rfl ?_
  refine j_iadd X dL_isBeyond_14 (q := 15) rfl ?_
  refine j_tld X ho (by omega) dL_isBeyond_15 (q := 16) rfl ?_
  rw [(hA.2 z hz.1 hz.2).2.1]
  refine j_i2l X (by omega) dL_isBeyond_16 (q := 17) rfl ?_
  refine j_lcmp X (by omega) (by omega) dL_isBeyond_17 (q := 18) rfl ?_
  refine j_if_gt X (tgt := 36) dL_isBeyond_18 (by decide) (q := 21) rfl (cmpI_r _ _) (fun c_18 => ?_) (fun c_18 => ?_)
  · skip
    have c1 := cmpI_gt.mp c_18
    refine j_iconst X (a := 1) dL_isBeyond_36 (q := 37) rfl ?_
    refine j_goto X (tgt := 41) dL_isBeyond_37 (by decide) ?_
    exact j_zret X rfl (Or.inr rfl) dL_isBeyond_41 (⟨by rw [oS, tf_t (iabs_gt.mpr (by omega))], rfl⟩) (by first | decide | omega) (by first | decide | omega)
  · skip
    have c1 := cmpI_le.mp c_18
    refine j_lload X dL_isBeyond_21 (q := 23) rfl 0 rfl ?_
    refine j_aload_n X dL_isBeyond_23 (q := 24) rfl 2 rfl ?_
    refine j_bipush X (a := 12) (by decide +kernel) dL_isBeyond_24 (q := 26) rfl ?_
    refine j_iload_n X dL_isBeyond_26 (q := 27) rfl 3 rfl ?_
    refine j_iadd X dL_isBeyond_27 (q := 28) rfl ?_
    refine j_tld X ho (by omega) dL_isBeyond_28 (q := 29) rfl ?_
    rw [(hA.2 z hz.1 hz.2).2.1]
    refine j_i2l X (by omega) dL_isBeyond_29 (q := 30) rfl ?_
    refine j_ladd X dL_isBeyond_30 (q := 31) rfl ?_
    refine j_lconst X (a := 0) (by decide +kernel) dL_isBeyond_31 (q := 32) rfl ?_
    refine j_lcmp X (by omega) (by omega) dL_isBeyond_32 (q := 33) rfl ?_
    refine j_if_ge X (tgt := 40) dL_isBeyond_33 (by decide) (q := 36) rfl (cmpI_r _ _) (fun c_33 => ?_) (fun c_33 => ?_)
    · skip
      have c2 := cmpI_ge.mp c_33
      refine j_iconst X (a := 0) dL_isBeyond_40 (q := 41) rfl ?_
      exact j_zret X rfl (Or.inl rfl) dL_isBeyond_41 (⟨by rw [oS, tf_f (fun q => by rw [iabs_gt] at q; omega)], rfl⟩) (by first | decide | omega) (by first | decide | omega)
    · skip
      have c2 := cmpI_lt.mp c_33
      refine j_iconst X (a := 1) dL_isBeyond_36 (q := 37) rfl ?_
      refine j_goto X (tgt := 41) dL_isBeyond_37 (by decide) ?_
      exact j_zret X rfl (Or.inr rfl) dL_isBeyond_41 (⟨by rw [oS, tf_t (iabs_gt.mpr (by omega))], rfl⟩) (by first | decide | omega) (by first | decide | omega)

set_option maxRecDepth 100000 in
set_option maxHeartbeats 4000000 in
theorem c_L_isDrift {l : Launch} (hlt : l.stackTraces = false) {D : va_G} {ca : Nat → ClassId} {base : Nat} {ad : Nat → Int → Nat} {cn n nc nm : Int} {S T : St} {w : Wd} (hC : CW base ca ad n nc nm S w) (hS : Sim cn n nc nm S T) {o : Nat} {g : Int → Int} (ho : w o = some (eT ca g)) (hA : TA n S g) (z : Int) (hz : 0 ≤ z ∧ z < n) (hF : 0 ≤ S 15 z) : CT l D ca base yL_isDrift cL_isDrift 7 (some .boolean) 4 14 84 [.ref (ad 0 0), .ref (o), .int (iI (z))] w (fun v w' => v = some (.int (iI 1)) ∧ w = w') (fun _ _ => False) := by
  have hI := hS.1
  obtain ⟨hn, hnc, hnm, e3, e4, e5, h6, h7, h8⟩ := hI.top
  refine CT.mk hlt (by decide +kernel) (by first | exact Nat.le_of_ble_eq_true rfl | simp [lg_sl, cat_rf, cat_i, cat_l, cat_r]) ?_
  intro p e s m args below meth c X htab
  rw [show lv_args 0 [.ref (ad 0 0), .ref (o), .int (iI (z))] = [(0, .ref (ad 0 0)), (1, .ref (o)), (2, .int (iI (z)))] from by first | rfl | simp [lv_args, cat_rf, cat_i, cat_l, cat_r]]
  have hj : 0 ≤ S 15 z ∧ S 15 z < nc := ⟨hF, (hI.ins hz.1 hz.2).2.2.2.2.2.1.2⟩
  have hb0 := errS_b hI hz hj (show (0 : Int) ≤ 0 ∧ (0 : Int) ≤ 9999 by decide)
  have hb99 := errS_b hI hz hj (show (0 : Int) ≤ 99 ∧ (99 : Int) ≤ 9999 by decide)
  have hb100 := errS_b hI hz hj (show (0 : Int) ≤ 100 ∧ (100 : Int) ≤ 9999 by decide)
  have hb9999 := errS_b hI hz hj (show (0 : Int) ≤ 9999 ∧ (9999 : Int) ≤ 9999 by decide)
  obtain ⟨i0, i1, i2, i3, i4, i5, i6, i17, i18⟩ := hI.ins hz.1 hz.2
  have hdr := drS_spec hF
  have hdb : -1 ≤ drS S z ∧ drS S z ≤ 9999 := by omega
  obtain ⟨cz, hcz, hcb, hc0, hc1, -⟩ := slope_sgn i17 i18.2
  refine j_aload_n X dL_isDrift_0 (q := 1) rfl 0 rfl ?_
  refine j_iload_n X dL_isDrift_1 (q := 2) rfl 2 rfl ?_
  refine j_callV X (As := [.int (iI (z))]) (st := []) hC.cal rfl (c_X3_driftsOut hlt hC hI z (by omega)) sv_L_85 (by decide) rfl (by first | decide | exact Nat.le_of_ble_eq_true rfl | simp [cat_rf, cat_i, cat_l, cat_r]) dL_isDrift_2 (by first | decide | exact ⟨by show _ ≤ (14 : Nat); omega, by show _ ≤ (84 : Nat); omega⟩) (fun _ _ hE => by exfalso; omega) ?_
  rintro v9 w9 ⟨-, rfl, rfl⟩
  refine j_st (st := [.int (iI (drS S z))]) ?_
  refine j_istore_n X (i := 3) dL_isDrift_5 rfl (by decide) (q := 6) rfl (lv' := [(3, .int (iI (drS S z))), (0, .ref (ad 0 0)), (1, .ref (o)), (2, .int (iI (z)))]) (by first | rfl | simp [cat_rf, cat_i, cat_l, cat_r]) ?_
  refine j_aload_n X dL_isDrift_6 (q := 7) rfl 1 rfl ?_
  refine j_iload_n X dL_isDrift_7 (q := 8) rfl 3 rfl ?_
  refine j_callV X (As := [.int (iI (z))]) (st := []) hC.cal rfl (c_X3_slope hlt hC hI z (by omega)) sv_L_91 (by decide) rfl (by first | decide | exact Nat.le_of_ble_eq_true rfl | simp [cat_rf, cat_i, cat_l, cat_r]) dL_isDrift_8 (by first | decide | exact ⟨by show _ ≤ (14 : Nat); omega, by show _ ≤ (84 : Nat); omega⟩) (fun _ _ hE => by exfalso; omega) ?_
  rintro v9 w9 ⟨-, rfl, rfl⟩
  refine j_st (st := [.double (slP (S 17 z) (S 18 z))]) ?_
  refine j_dstore X (i := 4) dL_isDrift_11 (by decide) (q := 13) rfl (lv' := [(4, .double (slP (S 17 z) (S 18 z))), (3, .int (iI (drS S z))), (0, .ref (ad 0 0)), (1, .ref (o)), (2, .int (iI (z)))]) (by first | rfl | simp [cat_rf, cat_i, cat_l, cat_r]) ?_
  refine j_dload X dL_isDrift_13 (q := 15) rfl 0 rfl ?_
  refine j_dconst0 X dL_isDrift_15 (q := 16) rfl ?_
  refine j_dcmp X dL_isDrift_16 (q := 17) rfl ?_
  rw [hcz]
  refine j_if_lt X (tgt := 64) dL_isDrift_17 (by decide) (q := 20) rfl (by omega) (fun c_17 => ?_) (fun c_17 => ?_)
  · skip
    refine j_aload_n X dL_isDrift_64 (q := 65) rfl 2 rfl ?_
    refine j_iload_n X dL_isDrift_65 (q := 66) rfl 4 rfl ?_
    refine j_bipush X (a := 100) (by decide +kernel) dL_isDrift_66 (q := 68) rfl ?_
    refine j_callV X (As := [.int (iI (z)), .int (iI (100))]) (st := []) hC.cal rfl (c_X3_expected hlt hC hI z (by omega) 100 (by omega)) sv_L_75 (by decide) rfl (by first | decide | exact Nat.le_of_ble_eq_true rfl | simp [cat_rf, cat_i, cat_l, cat_r]) dL_isDrift_68 (by first | decide | exact ⟨by show _ ≤ (14 : Nat); omega, by show _ ≤ (84 : Nat); omega⟩) (fun _ _ hE => by exfalso; omega) ?_
    rintro v9 w9 ⟨-, rfl, rfl⟩
    refine j_st (st := [.long (iL (errS S z (S 15 z) 100))]) ?_
    refine j_aload_n X dL_isDrift_71 (q := 72) rfl 2 rfl ?_
    refine j_iload_n X dL_isDrift_72 (q := 73) rfl 4 rfl ?_
    refine j_bipush X (a := 99) (by decide +kernel) dL_isDrift_73 (q := 75) rfl ?_
    refine j_callV X (As := [.int (iI (z)), .int (iI (99))]) (st := [.long (iL (errS S z (S 15 z) 100))]) hC.cal rfl (c_X3_expected hlt hC hI z (by omega) 99 (by omega)) sv_L_75 (by decide) rfl (by first | decide | exact Nat.le_of_ble_eq_true rfl | simp [cat_rf, cat_i, cat_l, cat_r]) dL_isDrift_75 (by first | decide | exact ⟨by show _ ≤ (14 : Nat); omega, by show _ ≤ (84 : Nat); omega⟩) (fun _ _ hE => by exfalso; omega) ?_
    rintro v9 w9 ⟨-, rfl, rfl⟩
    refine j_st (st := [.long (iL (errS S z (S 15 z) 99)), .long (iL (errS S z (S 15 z) 100))]) ?_
    refine j_lcmp X (by omega) (by omega) dL_isDrift_78 (q := 79) rfl ?_
    refine j_if_gt X (tgt := 104) dL_isDrift_79 (by decide) (q := 82) rfl (cmpI_r _ _) (fun c_79 => ?_) (fun c_79 => ?_)
    · skip
      exfalso; have q1 := cmpI_gt.mp c_79; have q2 := errS_dn (S := S) (u := z) (j := S 15 z) (a := 99) (b := 100) (hc0 c_17) (by decide); omega
    · skip
      refine j_aload_n X dL_isDrift_82 (q := 83) rfl 2 rfl ?_
      refine j_iload_n X dL_isDrift_83 (q := 84) rfl 4 rfl ?_
      refine j_sipush X (a := 9999) (by decide +kernel) dL_isDrift_84 (q := 87) rfl ?_
      refine j_callV X (As := [.int (iI (z)), .int (iI (9999))]) (st := []) hC.cal rfl (c_X3_expected hlt hC hI z (by omega) 9999 (by omega)) sv_L_75 (by decide) rfl (by first | decide | exact Nat.le_of_ble_eq_true rfl | simp [cat_rf, cat_i, cat_l, cat_r]) dL_isDrift_87 (by first | decide | exact ⟨by show _ ≤ (14 : Nat); omega, by show _ ≤ (84 : Nat); omega⟩) (fun _ _ hE => by exfalso; omega) ?_
      rintro v9 w9 ⟨-, rfl, rfl⟩
      refine j_st (st := [.long (iL (errS S z (S 15 z) 9999))]) ?_
      refine j_aload_n X dL_isDrift_90 (q := 91) rfl 2 rfl ?_
      refine j_iload_n X dL_isDrift_91 (q := 92) rfl 4 rfl ?_
      refine j_iconst X (a := 0) dL_isDrift_92 (q := 93) rfl ?_
      refine j_callV X (As := [.int (iI (z)), .int (iI (0))]) (st := [.long (iL (errS S z (S 15 z) 9999))]) hC.cal rfl (c_X3_expected hlt hC hI z (by omega) 0 (by omega)) sv_L_75 (by decide) rfl (by first | decide | exact Nat.le_of_ble_eq_true rfl | simp [cat_rf, cat_i, cat_l, cat_r]) dL_isDrift_93 (by first | decide | exact ⟨by show _ ≤ (14 : Nat); omega, by show _ ≤ (84 : Nat); omega⟩) (fun _ _ hE => by exfalso; omega) ?_
      rintro v9 w9 ⟨-, rfl, rfl⟩
      refine j_st (st := [.long (iL (errS S z (S 15 z) 0)), .long (iL (errS S z (S 15 z) 9999))]) ?_
      refine j_lcmp X (by omega) (by omega) dL_isDrift_96 (q := 97) rfl ?_
      refine j_if_gt X (tgt := 104) dL_isDrift_97 (by decide) (q := 100) rfl (cmpI_r _ _) (fun c_97 => ?_) (fun c_97 => ?_)
      · skip
        exfalso; have q1 := cmpI_gt.mp c_97; have q2 := errS_dn (S := S) (u := z) (j := S 15 z) (a := 0) (b := 9999) (hc0 c_17) (by decide); omega
      · skip
        refine j_iconst X (a := 1) dL_isDrift_100 (q := 101) rfl ?_
        refine j_goto X (tgt := 105) dL_isDrift_101 (by decide) ?_
        refine j_istore X (i := 6) dL_isDrift_105 (by decide) (q := 107) rfl (lv' := [(6, .int (iI (1))), (4, .double (slP (S 17 z) (S 18 z))), (3, .int (iI (drS S z))), (0, .ref (ad 0 0)), (1, .ref (o)), (2, .int (iI (z)))]) (by first | rfl | simp [cat_rf, cat_i, cat_l, cat_r]) ?_
        refine j_iload_n X dL_isDrift_107 (q := 108) rfl 2 rfl ?_
        refine j_iconst X (a := -1) dL_isDrift_108 (q := 109) rfl ?_
        refine j_icmp_ne X (tgt := 145) dL_isDrift_109 (by decide) (q := 112) rfl (by omega) (by omega) (fun c_109 => ?_) (fun c_109 => ?_)
        · skip
          refine j_iload X dL_isDrift_145 (q := 147) rfl 0 rfl ?_
          refine j_if_eq X (tgt := 191) dL_isDrift_147 (by decide) (q := 150) rfl (by omega) (fun c_147 => ?_) (fun c_147 => ?_)
          · skip
            exfalso; omega
          · skip
            refine j_iload_n X dL_isDrift_150 (q := 151) rfl 2 rfl ?_
            refine j_if_lt X (tgt := 191) dL_isDrift_151 (by decide) (q := 154) rfl (by omega) (fun c_151 => ?_) (fun c_151 => ?_)
            · skip
              exfalso; omega
            · skip
              refine j_iload_n X dL_isDrift_154 (q := 155) rfl 2 rfl ?_
              refine j_sipush X (a := 9999) (by decide +kernel) dL_isDrift_155 (q := 158) rfl ?_
              refine j_icmp_gt X (tgt := 191) dL_isDrift_158 (by decide) (q := 161) rfl (by omega) (by omega) (fun c_158 => ?_) (fun c_158 => ?_)
              · skip
                exfalso; omega
              · skip
                refine j_aload_n X dL_isDrift_161 (q := 162) rfl 3 rfl ?_
                refine j_aload_n X dL_isDrift_162 (q := 163) rfl 4 rfl ?_
                refine j_iload_n X dL_isDrift_163 (q := 164) rfl 5 rfl ?_
                refine j_iload_n X dL_isDrift_164 (q := 165) rfl 2 rfl ?_
                have hyo : oS S z (S 15 z) (drS S z) = 1 ∧ ∀ t, 0 ≤ t → t < drS S z → oS S z (S 15 z) t = 0 := by
                  rcases hdr with q | q
                  · exfalso; omega
                  · exact q.2
                have hq9 : oS S z (S 15 z) (drS S z) = 1 := hyo.1
                refine j_callS X (As := [.ref (ad 0 0), .ref (o), .int (iI (z)), .int (iI (drS S z))]) (st := []) (c_L_isBeyond hlt hC hS ho hA z (drS S z) hz (by omega) hF) ss_L_99 (by decide) rfl (by first | decide | exact Nat.le_of_ble_eq_true rfl) dL_isDrift_165 (by first | decide | exact ⟨by show _ ≤ (14 : Nat); omega, by show _ ≤ (84 : Nat); omega⟩) (fun _ _ h => h.elim) ?_
                rintro v9 w9 ⟨rfl, rfl⟩
                rw [hq9]
                refine j_st (st := [.int (iI (1 :))]) ?_
                refine j_if_eq X (tgt := 191) dL_isDrift_168 (by decide) (q := 171) rfl (by omega) (fun c_168 => ?_) (fun c_168 => ?_)
                · skip
                  exfalso; omega
                · skip
                  refine j_iload_n X dL_isDrift_171 (q := 172) rfl 2 rfl ?_
                  refine j_if_eq X (tgt := 187) dL_isDrift_172 (by decide) (q := 175) rfl (by omega) (fun c_172 => ?_) (fun c_172 => ?_)
                  · skip
                    refine j_iconst X (a := 1) dL_isDrift_187 (q := 188) rfl ?_
                    refine j_goto X (tgt := 192) dL_isDrift_188 (by decide) ?_
                    exact j_zret X rfl (Or.inr rfl) dL_isDrift_192 (⟨rfl, rfl⟩) (by first | decide | omega) (by first | decide | omega)
                  · skip
                    refine j_aload_n X dL_isDrift_175 (q := 176) rfl 3 rfl ?_
                    refine j_aload_n X dL_isDrift_176 (q := 177) rfl 4 rfl ?_
                    refine j_iload_n X dL_isDrift_177 (q := 178) rfl 5 rfl ?_
                    refine j_iload_n X dL_isDrift_178 (q := 179) rfl 2 rfl ?_
                    refine j_iconst X (a := 1) dL_isDrift_179 (q := 180) rfl ?_
                    refine j_isub X dL_isDrift_180 (q := 181) rfl ?_
                    have hyo : oS S z (S 15 z) (drS S z) = 1 ∧ ∀ t, 0 ≤ t → t < drS S z → oS S z (S 15 z) t = 0 := by
                      rcases hdr with q | q
                      · exfalso; omega
                      · exact q.2
                    have hq9 : oS S z (S 15 z) (drS S z - 1) = 0 := hyo.2 _ (by omega) (by omega)
                    refine j_callS X (As := [.ref (ad 0 0), .ref (o), .int (iI (z)), .int (iI ((drS S z) - 1))]) (st := []) (c_L_isBeyond hlt hC hS ho hA z ((drS S z) - 1) hz (by omega) hF) ss_L_99 (by decide) rfl (by first | decide | exact Nat.le_of_ble_eq_true rfl) dL_isDrift_181 (by first | decide | exact ⟨by show _ ≤ (14 : Nat); omega, by show _ ≤ (84 : Nat); omega⟩) (fun _ _ h => h.elim) ?_
                    rintro v9 w9 ⟨rfl, rfl⟩
                    rw [hq9]
                    refine j_st (st := [.int (iI (0 :))]) ?_
                    refine j_if_ne X (tgt := 191) dL_isDrift_184 (by decide) (q := 187) rfl (by omega) (fun c_184 => ?_) (fun c_184 => ?_)
                    · skip
                      exfalso; omega
                    · skip
                      refine j_iconst X (a := 1) dL_isDrift_187 (q := 188) rfl ?_
                      refine j_goto X (tgt := 192) dL_isDrift_188 (by decide) ?_
                      exact j_zret X rfl (Or.inr rfl) dL_isDrift_192 (⟨rfl, rfl⟩) (by first | decide | omega) (by first | decide | omega)
        · skip
          refine j_iload X dL_isDrift_112 (q := 114) rfl 0 rfl ?_
          refine j_if_eq X (tgt := 143) dL_isDrift_114 (by decide) (q := 117) rfl (by omega) (fun c_114 => ?_) (fun c_114 => ?_)
          · skip
            exfalso; omega
          · skip
            refine j_aload_n X dL_isDrift_117 (q := 118) rfl 3 rfl ?_
            refine j_aload_n X dL_isDrift_118 (q := 119) rfl 4 rfl ?_
            refine j_iload_n X dL_isDrift_119 (q := 120) rfl 5 rfl ?_
            refine j_iconst X (a := 0) dL_isDrift_120 (q := 121) rfl ?_
            have hno : ∀ t, 0 ≤ t → t ≤ 9999 → oS S z (S 15 z) t = 0 := by
              rcases hdr with q | q
              · exact q.2
              · exfalso; omega
            have hq9 : oS S z (S 15 z) (0) = 0 := hno 0 (by decide) (by decide)
            refine j_callS X (As := [.ref (ad 0 0), .ref (o), .int (iI (z)), .int (iI (0))]) (st := []) (c_L_isBeyond hlt hC hS ho hA z (0) hz (by omega) hF) ss_L_99 (by decide) rfl (by first | decide | exact Nat.le_of_ble_eq_true rfl) dL_isDrift_121 (by first | decide | exact ⟨by show _ ≤ (14 : Nat); omega, by show _ ≤ (84 : Nat); omega⟩) (fun _ _ h => h.elim) ?_
            rintro v9 w9 ⟨rfl, rfl⟩
            rw [hq9]
            refine j_st (st := [.int (iI (0 :))]) ?_
            refine j_if_ne X (tgt := 143) dL_isDrift_124 (by decide) (q := 127) rfl (by omega) (fun c_124 => ?_) (fun c_124 => ?_)
            · skip
              exfalso; omega
            · skip
              refine j_aload_n X dL_isDrift_127 (q := 128) rfl 3 rfl ?_
              refine j_aload_n X dL_isDrift_128 (q := 129) rfl 4 rfl ?_
              refine j_iload_n X dL_isDrift_129 (q := 130) rfl 5 rfl ?_
              refine j_sipush X (a := 5000) (by decide +kernel) dL_isDrift_130 (q := 133) rfl ?_
              have hno : ∀ t, 0 ≤ t → t ≤ 9999 → oS S z (S 15 z) t = 0 := by
                rcases hdr with q | q
                · exact q.2
                · exfalso; omega
              have hq9 : oS S z (S 15 z) (5000) = 0 := hno 5000 (by decide) (by decide)
              refine j_callS X (As := [.ref (ad 0 0), .ref (o), .int (iI (z)), .int (iI (5000))]) (st := []) (c_L_isBeyond hlt hC hS ho hA z (5000) hz (by omega) hF) ss_L_99 (by decide) rfl (by first | decide | exact Nat.le_of_ble_eq_true rfl) dL_isDrift_133 (by first | decide | exact ⟨by show _ ≤ (14 : Nat); omega, by show _ ≤ (84 : Nat); omega⟩) (fun _ _ h => h.elim) ?_
              rintro v9 w9 ⟨rfl, rfl⟩
              rw [hq9]
              refine j_st (st := [.int (iI (0 :))]) ?_
              refine j_if_ne X (tgt := 143) dL_isDrift_136 (by decide) (q := 139) rfl (by omega) (fun c_136 => ?_) (fun c_136 => ?_)
              · skip
                exfalso; omega
              · skip
                refine j_iconst X (a := 1) dL_isDrift_139 (q := 140) rfl ?_
                refine j_goto X (tgt := 144) dL_isDrift_140 (by decide) ?_
                exact j_zret X rfl (Or.inr rfl) dL_isDrift_144 (⟨rfl, rfl⟩) (by first | decide | omega) (by first | decide | omega)
  · skip
    refine j_aload_n X dL_isDrift_20 (q := 21) rfl 2 rfl ?_
    refine j_iload_n X dL_isDrift_21 (q := 22) rfl 4 rfl ?_
    refine j_bipush X (a := 100) (by decide +kernel) dL_isDrift_22 (q := 24) rfl ?_
    refine j_callV X (As := [.int (iI (z)), .int (iI (100))]) (st := []) hC.cal rfl (c_X3_expected hlt hC hI z (by omega) 100 (by omega)) sv_L_75 (by decide) rfl (by first | decide | exact Nat.le_of_ble_eq_true rfl | simp [cat_rf, cat_i, cat_l, cat_r]) dL_isDrift_24 (by first | decide | exact ⟨by show _ ≤ (14 : Nat); omega, by show _ ≤ (84 : Nat); omega⟩) (fun _ _ hE => by exfalso; omega) ?_
    rintro v9 w9 ⟨-, rfl, rfl⟩
    refine j_st (st := [.long (iL (errS S z (S 15 z) 100))]) ?_
    refine j_aload_n X dL_isDrift_27 (q := 28) rfl 2 rfl ?_
    refine j_iload_n X dL_isDrift_28 (q := 29) rfl 4 rfl ?_
    refine j_bipush X (a := 99) (by decide +kernel) dL_isDrift_29 (q := 31) rfl ?_
    refine j_callV X (As := [.int (iI (z)), .int (iI (99))]) (st := [.long (iL (errS S z (S 15 z) 100))]) hC.cal rfl (c_X3_expected hlt hC hI z (by omega) 99 (by omega)) sv_L_75 (by decide) rfl (by first | decide | exact Nat.le_of_ble_eq_true rfl | simp [cat_rf, cat_i, cat_l, cat_r]) dL_isDrift_31 (by first | decide | exact ⟨by show _ ≤ (14 : Nat); omega, by show _ ≤ (84 : Nat); omega⟩) (fun _ _ hE => by exfalso; omega) ?_
    rintro v9 w9 ⟨-, rfl, rfl⟩
    refine j_st (st := [.long (iL (errS S z (S 15 z) 99)), .long (iL (errS S z (S 15 z) 100))]) ?_
    refine j_lcmp X (by omega) (by omega) dL_isDrift_34 (q := 35) rfl ?_
    refine j_if_lt X (tgt := 60) dL_isDrift_35 (by decide) (q := 38) rfl (cmpI_r _ _) (fun c_35 => ?_) (fun c_35 => ?_)
    · skip
      exfalso; have q1 := cmpI_lt.mp c_35; have q2 := errS_up (S := S) (u := z) (j := S 15 z) (a := 99) (b := 100) (hc1 c_17) (by decide); omega
    · skip
      refine j_aload_n X dL_isDrift_38 (q := 39) rfl 2 rfl ?_
      refine j_iload_n X dL_isDrift_39 (q := 40) rfl 4 rfl ?_
      refine j_sipush X (a := 9999) (by decide +kernel) dL_isDrift_40 (q := 43) rfl ?_
      refine j_callV X (As := [.int (iI (z)), .int (iI (9999))]) (st := []) hC.cal rfl (c_X3_expected hlt hC hI z (by omega) 9999 (by omega)) sv_L_75 (by decide) rfl (by first | decide | exact Nat.le_of_ble_eq_true rfl | simp [cat_rf, cat_i, cat_l, cat_r]) dL_isDrift_43 (by first | decide | exact ⟨by show _ ≤ (14 : Nat); omega, by show _ ≤ (84 : Nat); omega⟩) (fun _ _ hE => by exfalso; omega) ?_
      rintro v9 w9 ⟨-, rfl, rfl⟩
      refine j_st (st := [.long (iL (errS S z (S 15 z) 9999))]) ?_
      refine j_aload_n X dL_isDrift_46 (q := 47) rfl 2 rfl ?_
      refine j_iload_n X dL_isDrift_47 (q := 48) rfl 4 rfl ?_
      refine j_iconst X (a := 0) dL_isDrift_48 (q := 49) rfl ?_
      refine j_callV X (As := [.int (iI (z)), .int (iI (0))]) (st := [.long (iL (errS S z (S 15 z) 9999))]) hC.cal rfl (c_X3_expected hlt hC hI z (by omega) 0 (by omega)) sv_L_75 (by decide) rfl (by first | decide | exact Nat.le_of_ble_eq_true rfl | simp [cat_rf, cat_i, cat_l, cat_r]) dL_isDrift_49 (by first | decide | exact ⟨by show _ ≤ (14 : Nat); omega, by show _ ≤ (84 : Nat); omega⟩) (fun _ _ hE => by exfalso; omega) ?_
      rintro v9 w9 ⟨-, rfl, rfl⟩
      refine j_st (st := [.long (iL (errS S z (S 15 z) 0)), .long (iL (errS S z (S 15 z) 9999))]) ?_
      refine j_lcmp X (by omega) (by omega) dL_isDrift_52 (q := 53) rfl ?_
      refine j_if_lt X (tgt := 60) dL_isDrift_53 (by decide) (q := 56) rfl (cmpI_r _ _) (fun c_53 => ?_) (fun c_53 => ?_)
      · skip
        exfalso; have q1 := cmpI_lt.mp c_53; have q2 := errS_up (S := S) (u := z) (j := S 15 z) (a := 0) (b := 9999) (hc1 c_17) (by decide); omega
      · skip
        refine j_iconst X (a := 1) dL_isDrift_56 (q := 57) rfl ?_
        refine j_goto X (tgt := 105) dL_isDrift_57 (by decide) ?_
        refine j_istore X (i := 6) dL_isDrift_105 (by decide) (q := 107) rfl (lv' := [(6, .int (iI (1))), (4, .double (slP (S 17 z) (S 18 z))), (3, .int (iI (drS S z))), (0, .ref (ad 0 0)), (1, .ref (o)), (2, .int (iI (z)))]) (by first | rfl | simp [cat_rf, cat_i, cat_l, cat_r]) ?_
        refine j_iload_n X dL_isDrift_107 (q := 108) rfl 2 rfl ?_
        refine j_iconst X (a := -1) dL_isDrift_108 (q := 109) rfl ?_
        refine j_icmp_ne X (tgt := 145) dL_isDrift_109 (by decide) (q := 112) rfl (by omega) (by omega) (fun c_109 => ?_) (fun c_109 => ?_)
        · skip
          refine j_iload X dL_isDrift_145 (q := 147) rfl 0 rfl ?_
          refine j_if_eq X (tgt := 191) dL_isDrift_147 (by decide) (q := 150) rfl (by omega) (fun c_147 => ?_) (fun c_147 => ?_)
          · skip
            exfalso; omega
          · skip
            refine j_iload_n X dL_isDrift_150 (q := 151) rfl 2 rfl ?_
            refine j_if_lt X (tgt := 191) dL_isDrift_151 (by decide) (q := 154) rfl (by omega) (fun c_151 => ?_) (fun c_151 => ?_)
            · skip
              exfalso; omega
            · skip
              refine j_iload_n X dL_isDrift_154 (q := 155) rfl 2 rfl ?_
              refine j_sipush X (a := 9999) (by decide +kernel) dL_isDrift_155 (q := 158) rfl ?_
              refine j_icmp_gt X (tgt := 191) dL_isDrift_158 (by decide) (q := 161) rfl (by omega) (by omega) (fun c_158 => ?_) (fun c_158 => ?_)
              · skip
                exfalso; omega
              · skip
                refine j_aload_n X dL_isDrift_161 (q := 162) rfl 3 rfl ?_
                refine j_aload_n X dL_isDrift_162 (q := 163) rfl 4 rfl ?_
                refine j_iload_n X dL_isDrift_163 (q := 164) rfl 5 rfl ?_
                refine j_iload_n X dL_isDrift_164 (q := 165) rfl 2 rfl ?_
                have hyo : oS S z (S 15 z) (drS S z) = 1 ∧ ∀ t, 0 ≤ t → t < drS S z → oS S z (S 15 z) t = 0 := by
                  rcases hdr with q | q
                  · exfalso; omega
                  · exact q.2
                have hq9 : oS S z (S 15 z) (drS S z) = 1 := hyo.1
                refine j_callS X (As := [.ref (ad 0 0), .ref (o), .int (iI (z)), .int (iI (drS S z))]) (st := []) (c_L_isBeyond hlt hC hS ho hA z (drS S z) hz (by omega) hF) ss_L_99 (by decide) rfl (by first | decide | exact Nat.le_of_ble_eq_true rfl) dL_isDrift_165 (by first | decide | exact ⟨by show _ ≤ (14 : Nat); omega, by show _ ≤ (84 : Nat); omega⟩) (fun _ _ h => h.elim) ?_
                rintro v9 w9 ⟨rfl, rfl⟩
                rw [hq9]
                refine j_st (st := [.int (iI (1 :))]) ?_
                refine j_if_eq X (tgt := 191) dL_isDrift_168 (by decide) (q := 171) rfl (by omega) (fun c_168 => ?_) (fun c_168 => ?_)
                · skip
                  exfalso; omega
                · skip
                  refine j_iload_n X dL_isDrift_171 (q := 172) rfl 2 rfl ?_
                  refine j_if_eq X (tgt := 187) dL_isDrift_172 (by decide) (q := 175) rfl (by omega) (fun c_172 => ?_) (fun c_172 => ?_)
                  · skip
                    refine j_iconst X (a := 1) dL_isDrift_187 (q := 188) rfl ?_
                    refine j_goto X (tgt := 192) dL_isDrift_188 (by decide) ?_
                    exact j_zret X rfl (Or.inr rfl) dL_isDrift_192 (⟨rfl, rfl⟩) (by first | decide | omega) (by first | decide | omega)
                  · skip
                    refine j_aload_n X dL_isDrift_175 (q := 176) rfl 3 rfl ?_
                    refine j_aload_n X dL_isDrift_176 (q := 177) rfl 4 rfl ?_
                    refine j_iload_n X dL_isDrift_177 (q := 178) rfl 5 rfl ?_
                    refine j_iload_n X dL_isDrift_178 (q := 179) rfl 2 rfl ?_
                    refine j_iconst X (a := 1) dL_isDrift_179 (q := 180) rfl ?_
                    refine j_isub X dL_isDrift_180 (q := 181) rfl ?_
                    have hyo : oS S z (S 15 z) (drS S z) = 1 ∧ ∀ t, 0 ≤ t → t < drS S z → oS S z (S 15 z) t = 0 := by
                      rcases hdr with q | q
                      · exfalso; omega
                      · exact q.2
                    have hq9 : oS S z (S 15 z) (drS S z - 1) = 0 := hyo.2 _ (by omega) (by omega)
                    refine j_callS X (As := [.ref (ad 0 0), .ref (o), .int (iI (z)), .int (iI ((drS S z) - 1))]) (st := []) (c_L_isBeyond hlt hC hS ho hA z ((drS S z) - 1) hz (by omega) hF) ss_L_99 (by decide) rfl (by first | decide | exact Nat.le_of_ble_eq_true rfl) dL_isDrift_181 (by first | decide | exact ⟨by show _ ≤ (14 : Nat); omega, by show _ ≤ (84 : Nat); omega⟩) (fun _ _ h => h.elim) ?_
                    rintro v9 w9 ⟨rfl, rfl⟩
                    rw [hq9]
                    refine j_st (st := [.int (iI (0 :))]) ?_
                    refine j_if_ne X (tgt := 191) dL_isDrift_184 (by decide) (q := 187) rfl (by omega) (fun c_184 => ?_) (fun c_184 => ?_)
                    · skip
                      exfalso; omega
                    · skip
                      refine j_iconst X (a := 1) dL_isDrift_187 (q := 188) rfl ?_
                      refine j_goto X (tgt := 192) dL_isDrift_188 (by decide) ?_
                      exact j_zret X rfl (Or.inr rfl) dL_isDrift_192 (⟨rfl, rfl⟩) (by first | decide | omega) (by first | decide | omega)
        · skip
          refine j_iload X dL_isDrift_112 (q := 114) rfl 0 rfl ?_
          refine j_if_eq X (tgt := 143) dL_isDrift_114 (by decide) (q := 117) rfl (by omega) (fun c_114 => ?_) (fun c_114 => ?_)
          · skip
            exfalso; omega
          · skip
            refine j_aload_n X dL_isDrift_117 (q := 118) rfl 3 rfl ?_
            refine j_aload_n X dL_isDrift_118 (q := 119) rfl 4 rfl ?_
            refine j_iload_n X dL_isDrift_119 (q := 120) rfl 5 rfl ?_
            refine j_iconst X (a := 0) dL_isDrift_120 (q := 121) rfl ?_
            have hno : ∀ t, 0 ≤ t → t ≤ 9999 → oS S z (S 15 z) t = 0 := by
              rcases hdr with q | q
              · exact q.2
              · exfalso; omega
            have hq9 : oS S z (S 15 z) (0) = 0 := hno 0 (by decide) (by decide)
            refine j_callS X (As := [.ref (ad 0 0), .ref (o), .int (iI (z)), .int (iI (0))]) (st := []) (c_L_isBeyond hlt hC hS ho hA z (0) hz (by omega) hF) ss_L_99 (by decide) rfl (by first | decide | exact Nat.le_of_ble_eq_true rfl) dL_isDrift_121 (by first | decide | exact ⟨by show _ ≤ (14 : Nat); omega, by show _ ≤ (84 : Nat); omega⟩) (fun _ _ h => h.elim) ?_
            rintro v9 w9 ⟨rfl, rfl⟩
            rw [hq9]
            refine j_st (st := [.int (iI (0 :))]) ?_
            refine j_if_ne X (tgt := 143) dL_isDrift_124 (by decide) (q := 127) rfl (by omega) (fun c_124 => ?_) (fun c_124 => ?_)
            · skip
              exfalso; omega
            · skip
              refine j_aload_n X dL_isDrift_127 (q := 128) rfl 3 rfl ?_
              refine j_aload_n X dL_isDrift_128 (q := 129) rfl 4 rfl ?_
              refine j_iload_n X dL_isDrift_129 (q := 130) rfl 5 rfl ?_
              refine j_sipush X (a := 5000) (by decide +kernel) dL_isDrift_130 (q := 133) rfl ?_
              have hno : ∀ t, 0 ≤ t → t ≤ 9999 → oS S z (S 15 z) t = 0 := by
                rcases hdr with q | q
                · exact q.2
                · exfalso; omega
              have hq9 : oS S z (S 15 z) (5000) = 0 := hno 5000 (by decide) (by decide)
              refine j_callS X (As := [.ref (ad 0 0), .ref (o), .int (iI (z)), .int (iI (5000))]) (st := []) (c_L_isBeyond hlt hC hS ho hA z (5000) hz (by omega) hF) ss_L_99 (by decide) rfl (by first | decide | exact Nat.le_of_ble_eq_true rfl) dL_isDrift_133 (by first | decide | exact ⟨by show _ ≤ (14 : Nat); omega, by show _ ≤ (84 : Nat); omega⟩) (fun _ _ h => h.elim) ?_
              rintro v9 w9 ⟨rfl, rfl⟩
              rw [hq9]
              refine j_st (st := [.int (iI (0 :))]) ?_
              refine j_if_ne X (tgt := 143) dL_isDrift_136 (by decide) (q := 139) rfl (by omega) (fun c_136 => ?_) (fun c_136 => ?_)
              · skip
                exfalso; omega
              · skip
                refine j_iconst X (a := 1) dL_isDrift_139 (q := 140) rfl ?_
                refine j_goto X (tgt := 144) dL_isDrift_140 (by decide) ?_
                exact j_zret X rfl (Or.inr rfl) dL_isDrift_144 (⟨rfl, rfl⟩) (by first | decide | omega) (by first | decide | omega)
