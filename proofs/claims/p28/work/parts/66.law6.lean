set_option maxRecDepth 100000 in
set_option maxHeartbeats 4000000 in
theorem c_L_draw {l : Launch} (hlt : l.stackTraces = false) {D : va_G} {ca : Nat → ClassId} {base b L : Nat} {xs : Nat → Int32} {w : Wd} (hbA : ¬ base ≤ b) (hL : L ≤ 260) (k9 : Int) (hk : 0 ≤ k9 ∧ k9 ≤ 1000) : CTX l D ca base b L xs yL_draw cL_draw 2 (some .int) 0 0 0 [.ref b, .int (iI k9)] w (fun v w' => ∃ z : Int, v = some (.int (iI z)) ∧ (0 ≤ z ∧ z ≤ 2147483647) ∧ w = w') := by
  refine CTX.mk hlt (by decide +kernel) (by first | exact Nat.le_of_ble_eq_true rfl | simp [lg_sl, cat_rf, cat_i, cat_l, cat_r]) ?_
  intro p e s m args below meth c X hX hbl
  rw [show lv_args 0 [.ref b, .int (iI k9)] = [(0, .ref b), (1, .int (iI k9))] from by first | rfl | simp [lv_args, cat_rf, cat_i, cat_l, cat_r]]
  refine j_iload_n X dL_draw_0 (q := 1) rfl 1 rfl ?_
  refine j_aload_n X dL_draw_1 (q := 2) rfl 0 rfl ?_
  refine j_slen X hX hbl hbA dL_draw_2 (q := 3) rfl ?_
  refine j_icmp_ge X (tgt := 15) dL_draw_3 (by decide) (q := 6) rfl (by omega) (by omega) (fun h => ?_) (fun h => ?_)
  · refine j_ldc X (a := 104729) ko_L_8 rfl dL_draw_15 (q := 17) rfl ?_
    refine j_iload_n X dL_draw_17 (q := 18) rfl 1 rfl ?_
    refine j_iconst X (a := 2) dL_draw_18 (q := 19) rfl ?_
    refine j_iadd X dL_draw_19 (q := 20) rfl ?_
    refine j_imul X dL_draw_20 (q := 21) rfl ?_
    refine j_ldc X (a := 65521) ko_L_9 rfl dL_draw_21 (q := 23) rfl ?_
    refine j_irem X (by omega) (by omega) dL_draw_23 (q := 24) rfl ?_
    have hb := tm_b (a := 104729 * (k9 + 2)) (b := 65521) (by omega) (by decide)
    exact j_iret X rfl dL_draw_24 ⟨_, rfl, by omega, rfl⟩ (by decide) (by decide)
  · refine j_aload_n X dL_draw_6 (q := 7) rfl 0 rfl ?_
    refine j_iload_n X dL_draw_7 (q := 8) rfl 1 rfl ?_
    refine j_sld X hX hbl hbA (by omega) (by omega) dL_draw_8 (q := 9) rfl ?_
    refine j_ldc X (a := 2147483647) ko_L_7 rfl dL_draw_9 (q := 11) rfl ?_
    obtain ⟨z, hz, hzr⟩ := and_pos (xs k9.toNat)
    refine j_iand X (v := iI z) hz dL_draw_11 (q := 12) rfl ?_
    refine j_goto X (tgt := 24) dL_draw_12 (by decide) ?_
    exact j_iret X rfl dL_draw_24 ⟨z, rfl, hzr, rfl⟩ (by decide) (by decide)
section LAW
variable {p : Program} {l : Launch} {e : Env} {s : State} {m : MethodId} {args : Array Value} {below : List Frame} {meth : Method} {cd : Code} {Q : State → Prop} {D : va_G} {ca : Nat → ClassId} {base kc ks : Nat} {w : Wd} {mn : String}
set_option maxRecDepth 100000 in
set_option maxHeartbeats 4000000 in
theorem law_a (X : Cx p l s m args meth cd ⟨RL, mn, ""⟩ code 8 ret D ca base) (hlt : l.stackTraces = false) {b L : Nat} {xs : Nat → Int32} (hX : va_X b L xs s s.heap) (hbl : b < s.heap.size) (hbA : ¬ base ≤ b) (hL : L ≤ 260) {ax o : Nat} (hbo : base ≤ o) (k9 s9 : Int) (hk9 : 0 ≤ k9 ∧ k9 < 60) (hkc : kc + 3000 ≤ 600104) (hks : ks + 20000 ≤ 7301314) (hLV : LV base ca ax o k9 w) (nx : ∀ (b9 : Int) (w1 : Wd), (0 ≤ b9 ∧ b9 ≤ 2147483647) → LV base ca ax o (k9 + 1) w1 → J p l e room_1 s m args below meth cd Q D base 8 (kc + 20) (ks + 130) 119 [(6, .int (iI (b9))), (5, .int (iI (k9))), (4, .int (iI (s9))), (3, .int (iI (1))), (2, .ref (o)), (1, .ref (ax)), (0, .ref (b))] [.int (iI (1))] w1) : J p l e room_1 s m args below meth cd Q D base 8 kc ks 82 [(5, .int (iI (k9))), (4, .int (iI (s9))), (3, .int (iI (1))), (2, .ref (o)), (1, .ref (ax)), (0, .ref (b))] [] w := by
  obtain ⟨n, nc, nm, S, T, ad, g, hS, hC, ho, hA, rfl⟩ := hLV
  have hI := hS.1
  obtain ⟨hn, hnc, hnm, e3, e4, e5, h6, h7, h8⟩ := hI.top
  refine j_aload_n X dL_law_82 (q := 83) rfl 5 rfl ?_
  refine j_iconst X (a := 3) dL_law_83 (q := 84) rfl ?_
  refine j_iload X dL_law_84 (q := 86) rfl 0 rfl ?_
  refine j_imul X dL_law_86 (q := 87) rfl ?_
  refine j_iconst X (a := 2) dL_law_87 (q := 88) rfl ?_
  refine j_iadd X dL_law_88 (q := 89) rfl ?_
  refine j_callSX X hX hbl hbA (As := [.ref (b), .int (iI ((3 * k9) + 2))]) (st := []) (c_L_draw hlt hbA hL ((3 * k9) + 2) (by omega)) ss_L_107 (by decide) rfl (by first | decide | exact Nat.le_of_ble_eq_true rfl | simp [cat_rf, cat_i, cat_l, cat_r]) dL_law_89 ⟨by show _ ≤ 600104; omega, by show _ ≤ 7301314; omega⟩ ?_
  rintro v9 w9 ⟨b9, rfl, hb9, rfl⟩
  refine j_st (st := [.int (iI (b9))]) ?_
  refine j_istore X (i := 6) dL_law_92 (by decide) (q := 94) rfl (lv' := [(6, .int (iI (b9))), (5, .int (iI (k9))), (4, .int (iI (s9))), (3, .int (iI (1))), (2, .ref (o)), (1, .ref (ad 0 0)), (0, .ref (b))]) (by first | rfl | simp [cat_rf, cat_i, cat_l, cat_r]) ?_
  refine j_aload_n X dL_law_94 (q := 95) rfl 5 rfl ?_
  refine j_aload_n X dL_law_95 (q := 96) rfl 4 rfl ?_
  refine j_aload_n X dL_law_96 (q := 97) rfl 6 rfl ?_
  refine j_iconst X (a := 3) dL_law_97 (q := 98) rfl ?_
  refine j_iload X dL_law_98 (q := 100) rfl 1 rfl ?_
  refine j_imul X dL_law_100 (q := 101) rfl ?_
  refine j_callSX X hX hbl hbA (As := [.ref (b), .int (iI (3 * k9))]) (st := [.ref (o), .ref (ad 0 0)]) (c_L_draw hlt hbA hL (3 * k9) (by omega)) ss_L_107 (by decide) rfl (by first | decide | exact Nat.le_of_ble_eq_true rfl | simp [cat_rf, cat_i, cat_l, cat_r]) dL_law_101 ⟨by show _ ≤ 600104; omega, by show _ ≤ 7301314; omega⟩ ?_
  rintro v9 w9 ⟨wh, rfl, hwh, rfl⟩
  refine j_st (st := [.int (iI (wh)), .ref (o), .ref (ad 0 0)]) ?_
  refine j_aload_n X dL_law_104 (q := 105) rfl 6 rfl ?_
  refine j_iconst X (a := 3) dL_law_105 (q := 106) rfl ?_
  refine j_iload X dL_law_106 (q := 108) rfl 1 rfl ?_
  refine j_imul X dL_law_108 (q := 109) rfl ?_
  refine j_iconst X (a := 1) dL_law_109 (q := 110) rfl ?_
  refine j_iadd X dL_law_110 (q := 111) rfl ?_
  refine j_callSX X hX hbl hbA (As := [.ref (b), .int (iI ((3 * k9) + 1))]) (st := [.int (iI (wh)), .ref (o), .ref (ad 0 0)]) (c_L_draw hlt hbA hL ((3 * k9) + 1) (by omega)) ss_L_107 (by decide) rfl (by first | decide | exact Nat.le_of_ble_eq_true rfl | simp [cat_rf, cat_i, cat_l, cat_r]) dL_law_111 ⟨by show _ ≤ 600104; omega, by show _ ≤ 7301314; omega⟩ ?_
  rintro v9 w9 ⟨aa, rfl, haa, rfl⟩
  refine j_st (st := [.int (iI (aa)), .int (iI (wh)), .ref (o), .ref (ad 0 0)]) ?_
  refine j_iload X dL_law_114 (q := 116) rfl 0 rfl ?_
  refine j_callS X (As := [.ref (ad 0 0), .ref (o), .int (iI (wh)), .int (iI (aa)), .int (iI (b9))]) (st := []) (c_L_step hlt hC hS ho hA hbo wh aa b9 hwh haa hb9 (by omega)) ss_L_111 (by decide) rfl (by first | decide | exact Nat.le_of_ble_eq_true rfl) dL_law_116 ⟨by show _ ≤ 600104; omega, by show _ ≤ 7301314; omega⟩ (fun _ _ h => h.elim) ?_
  rintro v9 w1 ⟨rfl, hLV1⟩
  exact j_widen (by omega) (by omega) (j_lv (nx b9 w1 hb9 hLV1) [0, 1, 2, 3, 4, 5, 6] rfl)

set_option maxRecDepth 100000 in
set_option maxHeartbeats 4000000 in
theorem law_b (X : Cx p l s m args meth cd ⟨RL, mn, ""⟩ code 8 ret D ca base) (hlt : l.stackTraces = false) {b L : Nat} {xs : Nat → Int32} (hX : va_X b L xs s s.heap) (hbl : b < s.heap.size) (hbA : ¬ base ≤ b) (hL : L ≤ 260) {ax o : Nat} (hbo : base ≤ o) (k9 s9 : Int) (hk9 : 0 ≤ k9 ∧ k9 < 60) (b9 : Int) (hb9 : 0 ≤ b9 ∧ b9 ≤ 2147483647) (hkc : kc + 3000 ≤ 600104) (hks : ks + 20000 ≤ 7301314) (hLV : LV base ca ax o (k9 + 1) w) (nx : J p l e room_1 s m args below meth cd Q D base 8 (kc + 1400) (ks + 8400) 220 [(5, .int (iI (k9))), (4, .int (iI (s9))), (3, .int (iI (1))), (2, .ref (o)), (1, .ref (ax)), (0, .ref (b))] [] w) : J p l e room_1 s m args below meth cd Q D base 8 kc ks 119 [(6, .int (iI (b9))), (5, .int (iI (k9))), (4, .int (iI (s9))), (3, .int (iI (1))), (2, .ref (o)), (1, .ref (ax)), (0, .ref (b))] [.int (iI (1))] w := by
  obtain ⟨n, nc, nm, S, T, ad, g, hS, hC, ho, hA, rfl⟩ := hLV
  have hI := hS.1
  obtain ⟨hn, hnc, hnm, e3, e4, e5, h6, h7, h8⟩ := hI.top
  obtain ⟨hcb1, hcb2, hcb3, hcb4⟩ := hS.cbs
  refine j_if_eq X (tgt := 148) dL_law_119 (by decide) (q := 122) rfl (by omega) (fun c_119 => ?_) (fun c_119 => ?_)
  · skip
    exfalso; omega
  · skip
    refine j_aload_n X dL_law_122 (q := 123) rfl 5 rfl ?_
    refine j_callV X (As := []) (st := []) hC.cal rfl (c_X3_calledBack hlt hC hI ) sv_L_65 (by decide) rfl (by first | decide | exact Nat.le_of_ble_eq_true rfl | simp [cat_rf, cat_i, cat_l, cat_r]) dL_law_123 ⟨by show _ ≤ 600104; omega, by show _ ≤ 7301314; omega⟩ (fun _ _ hE => hE.elim) ?_
    rintro v9 w9 ⟨rfl, rfl⟩
    refine j_st (st := [.int (iI (S 6 0))]) ?_
    refine j_aload_n X dL_law_126 (q := 127) rfl 5 rfl ?_
    refine j_callV X (As := []) (st := [.int (iI (S 6 0))]) hC.cal rfl (c_X3_calledBackByLog hlt hC hI ) sv_L_114 (by decide) rfl (by first | decide | exact Nat.le_of_ble_eq_true rfl | simp [cat_rf, cat_i, cat_l, cat_r]) dL_law_127 ⟨by show _ ≤ 600104; omega, by show _ ≤ 7301314; omega⟩ (fun _ _ hE => hE.elim) ?_
    rintro v9 w9 ⟨rfl, rfl⟩
    refine j_st (st := [.int (iI (sm (fun i => lrc S i (S 5 0).toNat) nm.toNat)), .int (iI (S 6 0))]) ?_
    rw [show (sm (fun i => lrc S i (S 5 0).toNat) nm.toNat : Int) = S 6 0 from hcb2]
    refine j_icmp_ne X (tgt := 148) dL_law_130 (by decide) (q := 133) rfl (by omega) (by omega) (fun c_130 => ?_) (fun c_130 => ?_)
    · skip
      exfalso; omega
    · skip
      refine j_aload_n X dL_law_133 (q := 134) rfl 5 rfl ?_
      refine j_callV X (As := []) (st := []) hC.cal rfl (c_X3_calledBack hlt hC hI ) sv_L_65 (by decide) rfl (by first | decide | exact Nat.le_of_ble_eq_true rfl | simp [cat_rf, cat_i, cat_l, cat_r]) dL_law_134 ⟨by show _ ≤ 600104; omega, by show _ ≤ 7301314; omega⟩ (fun _ _ hE => hE.elim) ?_
      rintro v9 w9 ⟨rfl, rfl⟩
      refine j_st (st := [.int (iI (S 6 0))]) ?_
      refine j_aload_n X dL_law_137 (q := 138) rfl 5 rfl ?_
      refine j_callV X (As := []) (st := [.int (iI (S 6 0))]) hC.cal rfl (c_X3_measurements hlt hC hI ) sv_L_53 (by decide) rfl (by first | decide | exact Nat.le_of_ble_eq_true rfl | simp [cat_rf, cat_i, cat_l, cat_r]) dL_law_138 ⟨by show _ ≤ 600104; omega, by show _ ≤ 7301314; omega⟩ (fun _ _ hE => hE.elim) ?_
      rintro v9 w9 ⟨rfl, rfl⟩
      refine j_st (st := [.int (iI (S 4 0)), .int (iI (S 6 0))]) ?_
      refine j_icmp_gt X (tgt := 148) dL_law_141 (by decide) (q := 144) rfl (by omega) (by omega) (fun c_141 => ?_) (fun c_141 => ?_)
      · skip
        exfalso; omega
      · skip
        refine j_iconst X (a := 1) dL_law_144 (q := 145) rfl ?_
        refine j_goto X (tgt := 149) dL_law_145 (by decide) ?_
        refine j_istore_n X (i := 3) dL_law_149 rfl (by decide) (q := 150) rfl (lv' := [(3, .int (iI (1))), (6, .int (iI (b9))), (5, .int (iI (k9))), (4, .int (iI (s9))), (2, .ref (o)), (1, .ref (ad 0 0)), (0, .ref (b))]) (by first | rfl | simp [cat_rf, cat_i, cat_l, cat_r]) ?_
        refine j_iconst X (a := 0) dL_law_150 (q := 151) rfl ?_
        refine j_istore X (i := 7) dL_law_151 (by decide) (q := 153) rfl (lv' := [(7, .int (iI (0))), (3, .int (iI (1))), (6, .int (iI (b9))), (5, .int (iI (k9))), (4, .int (iI (s9))), (2, .ref (o)), (1, .ref (ad 0 0)), (0, .ref (b))]) (by first | rfl | simp [cat_rf, cat_i, cat_l, cat_r]) ?_
        have aft : J p l e room_1 s m args below meth cd Q D base 8 (kc + 720) (ks + 4320) 188 [(3, .int (iI (1))), (6, .int (iI (b9))), (5, .int (iI (k9))), (4, .int (iI (s9))), (2, .ref (o)), (1, .ref (ad 0 0)), (0, .ref (b))] [] w := by
          refine j_iload_n X dL_law_188 (q := 189) rfl 0 rfl ?_
          refine j_if_eq X (tgt := 218) dL_law_189 (by decide) (q := 192) rfl (by omega) (fun c_189 => ?_) (fun c_189 => ?_)
          · skip
            exfalso; omega
          · skip
            have mt_v_1 : J p l e room_1 s m args below meth cd Q D base 8 (kc + 1360) (ks + 8160) 214 [(3, .int (iI (1))), (6, .int (iI (b9))), (5, .int (iI (k9))), (4, .int (iI (s9))), (2, .ref (o)), (1, .ref (ad 0 0)), (0, .ref (b))] [] w := by
              refine j_iconst X (a := 1) dL_law_214 (q := 215) rfl ?_
              refine j_goto X (tgt := 219) dL_law_215 (by decide) ?_
              refine j_istore_n X (i := 3) dL_law_219 rfl (by decide) (q := 220) rfl (lv' := [(3, .int (iI (1))), (6, .int (iI (b9))), (5, .int (iI (k9))), (4, .int (iI (s9))), (2, .ref (o)), (1, .ref (ad 0 0)), (0, .ref (b))]) (by first | rfl | simp [cat_rf, cat_i, cat_l, cat_r]) ?_
              exact j_widen (by omega) (by omega) (j_lv nx [2, 3, 0, 4, 5, 6] rfl)
            refine j_iload X dL_law_192 (q := 194) rfl 2 rfl ?_
            refine j_iconst X (a := 5) dL_law_194 (q := 195) rfl ?_
            refine j_irem X (by omega) (by omega) dL_law_195 (q := 196) rfl ?_
            obtain ⟨r_2, er_2, br_2⟩ : ∃ r : Int, r = Int.tmod k9 5 ∧ (0 ≤ r ∧ r < 5) := ⟨_, rfl, tm_b (by omega) (by omega)⟩
            rw [← er_2]
            refine j_iconst X (a := 4) dL_law_196 (q := 197) rfl ?_
            refine j_icmp_lt X (tgt := 214) dL_law_197 (by decide) (q := 200) rfl (by omega) (by omega) (fun c_197 => ?_) (fun c_197 => ?_)
            · skip
              exact j_widen (by omega) (by omega) mt_v_1
            · skip
              refine j_aload_n X dL_law_200 (q := 201) rfl 5 rfl ?_
              refine j_aload_n X dL_law_201 (q := 202) rfl 4 rfl ?_
              refine j_iconst X (a := 1) dL_law_202 (q := 203) rfl ?_
              refine j_iload X dL_law_203 (q := 205) rfl 1 rfl ?_
              refine j_iconst X (a := 4) dL_law_205 (q := 206) rfl ?_
              refine j_irem X (by omega) (by omega) dL_law_206 (q := 207) rfl ?_
              obtain ⟨r_3, er_3, br_3⟩ : ∃ r : Int, r = Int.tmod b9 4 ∧ (0 ≤ r ∧ r < 4) := ⟨_, rfl, tm_b (by omega) (by omega)⟩
              rw [← er_3]
              refine j_iadd X dL_law_207 (q := 208) rfl ?_
              refine j_callS X (As := [.ref (ad 0 0), .ref (o), .int (iI (1 + r_3))]) (st := []) (c_L_isBench hlt hC hS ho hA (1 + r_3) (by omega)) ss_L_120 (by decide) rfl (by first | decide | exact Nat.le_of_ble_eq_true rfl) dL_law_208 ⟨by show _ ≤ 600104; omega, by show _ ≤ 7301314; omega⟩ (fun _ _ h => h.elim) ?_
              rintro v9 w9 ⟨rfl, rfl⟩
              refine j_st (st := [.int (iI (1))]) ?_
              refine j_if_eq X (tgt := 218) dL_law_211 (by decide) (q := 214) rfl (by omega) (fun c_211 => ?_) (fun c_211 => ?_)
              · skip
                exfalso; omega
              · skip
                exact j_widen (by omega) (by omega) mt_v_1
        have loop : ∀ (j n9 : Nat) (x9 : Int), x9 = n9 → x9 + j = n → J p l e room_1 s m args below meth cd Q D base 8 (kc + 60 * n9) (ks + 360 * n9) 153 [(7, .int (iI (x9))), (3, .int (iI (1))), (6, .int (iI (b9))), (5, .int (iI (k9))), (4, .int (iI (s9))), (2, .ref (o)), (1, .ref (ad 0 0)), (0, .ref (b))] [] w := by
          intro j
          induction j with
          | zero =>
            intro n9 x9 hm hj
            refine j_iload X dL_law_153 (q := 155) rfl 0 rfl ?_
            refine j_aload_n X dL_law_155 (q := 156) rfl 5 rfl ?_
            refine j_bipush X (a := 36) (by decide +kernel) dL_law_156 (q := 158) rfl ?_
            refine j_tld X ho (by omega) dL_law_158 (q := 159) rfl ?_
            rw [hA.1]
            refine j_icmp_ge X (tgt := 188) dL_law_159 (by decide) (q := 162) rfl (by omega) (by omega) (fun c_159 => ?_) (fun c_159 => ?_)
            · skip
              exact j_widen (by omega) (by omega) (j_lv aft [1, 2, 3, 4, 5, 6, 7] rfl)
            · skip
              exfalso; omega
          | succ j ih =>
            intro n9 x9 hm hj
            refine j_iload X dL_law_153 (q := 155) rfl 0 rfl ?_
            refine j_aload_n X dL_law_155 (q := 156) rfl 5 rfl ?_
            refine j_bipush X (a := 36) (by decide +kernel) dL_law_156 (q := 158) rfl ?_
            refine j_tld X ho (by omega) dL_law_158 (q := 159) rfl ?_
            rw [hA.1]
            refine j_icmp_ge X (tgt := 188) dL_law_159 (by decide) (q := 162) rfl (by omega) (by omega) (fun c_159 => ?_) (fun c_159 => ?_)
            · skip
              exact j_widen (by omega) (by omega) (j_lv aft [1, 2, 3, 4, 5, 6, 7] rfl)
            · skip
              have hx9 : 0 ≤ x9 ∧ x9 < n := by omega
              refine j_iload_n X dL_law_162 (q := 163) rfl 1 rfl ?_
              refine j_if_eq X (tgt := 188) dL_law_163 (by decide) (q := 166) rfl (by omega) (fun c_163 => ?_) (fun c_163 => ?_)
              · skip
                exfalso; omega
              · skip
                refine j_iload X dL_law_166 (q := 168) rfl 3 rfl ?_
                refine j_iconst X (a := 5) dL_law_168 (q := 169) rfl ?_
                refine j_irem X (by omega) (by omega) dL_law_169 (q := 170) rfl ?_
                obtain ⟨r_4, er_4, br_4⟩ : ∃ r : Int, r = Int.tmod k9 5 ∧ (0 ≤ r ∧ r < 5) := ⟨_, rfl, tm_b (by omega) (by omega)⟩
                rw [← er_4]
                refine j_iconst X (a := 4) dL_law_170 (q := 171) rfl ?_
                refine j_icmp_ne X (tgt := 188) dL_law_171 (by decide) (q := 174) rfl (by omega) (by omega) (fun c_171 => ?_) (fun c_171 => ?_)
                · skip
                  exact j_widen (by omega) (by omega) (j_lv aft [1, 2, 3, 4, 5, 6, 7] rfl)
                · skip
                  refine j_aload_n X dL_law_174 (q := 175) rfl 6 rfl ?_
                  refine j_aload_n X dL_law_175 (q := 176) rfl 5 rfl ?_
                  refine j_iload X dL_law_176 (q := 178) rfl 0 rfl ?_
                  refine j_callS X (As := [.ref (ad 0 0), .ref (o), .int (iI (x9))]) (st := []) (c_L_isInstrument hlt hC hS ho hA x9 hx9) ss_L_117 (by decide) rfl (by first | decide | exact Nat.le_of_ble_eq_true rfl) dL_law_178 ⟨by show _ ≤ 600104; omega, by show _ ≤ 7301314; omega⟩ (fun _ _ h => h.elim) ?_
                  rintro v9 w9 ⟨rfl, rfl⟩
                  refine j_st (st := [.int (iI (1))]) ?_
                  refine j_istore_n X (i := 3) dL_law_181 rfl (by decide) (q := 182) rfl (lv' := [(3, .int (iI (1))), (7, .int (iI (x9))), (6, .int (iI (b9))), (5, .int (iI (k9))), (4, .int (iI (s9))), (2, .ref (o)), (1, .ref (ad 0 0)), (0, .ref (b))]) (by first | rfl | simp [cat_rf, cat_i, cat_l, cat_r]) ?_
                  refine j_iinc X dL_law_182 1 rfl (by decide) (q := 185) rfl (lv' := [(7, .int (iI (x9 + 1))), (3, .int (iI (1))), (6, .int (iI (b9))), (5, .int (iI (k9))), (4, .int (iI (s9))), (2, .ref (o)), (1, .ref (ad 0 0)), (0, .ref (b))]) (by first | rfl | simp [cat_rf, cat_i, cat_l, cat_r]) ?_
                  refine j_goto X (tgt := 153) dL_law_185 (by decide) ?_
                  exact j_widen (by omega) (by omega) (j_lv (ih (n9 + 1) (x9 + 1) (by omega) (by omega)) [0, 1, 2, 3, 4, 5, 6, 7] rfl)
        exact j_widen (by omega) (by omega) (j_lv (loop n.toNat 0 0 rfl (by omega)) [0, 1, 2, 3, 4, 5, 6, 7] rfl)

set_option maxRecDepth 100000 in
set_option maxHeartbeats 4000000 in
theorem law_d (X : Cx p l s m args meth cd ⟨RL, mn, ""⟩ code 8 ret D ca base) (hlt : l.stackTraces = false) {b L : Nat} {xs : Nat → Int32} (hX : va_X b L xs s s.heap) (hbl : b < s.heap.size) (hbA : ¬ base ≤ b) (hL : L ≤ 260) {ax o : Nat} (hbo : base ≤ o) {c9 : Int} (hkc : kc + 3000 ≤ 600104) (hks : ks + 20000 ≤ 7301314) (hLV : LV base ca ax o c9 w) (hend : ∀ (lv : List (Nat × Value)) (k n : Nat) (w : Wd), k ≤ 600104 → n ≤ 7301314 → J p l e room_1 s m args below meth cd Q D base 8 k n 288 lv [.int (iI (1))] w) : J p l e room_1 s m args below meth cd Q D base 8 kc ks 226 [(3, .int (iI (1))), (2, .ref (o)), (1, .ref (ax)), (0, .ref (b))] [] w := by
  obtain ⟨n, nc, nm, S, T, ad, g, hS, hC, ho, hA, rfl⟩ := hLV
  have hI := hS.1
  obtain ⟨hn, hnc, hnm, e3, e4, e5, h6, h7, h8⟩ := hI.top
  obtain ⟨hcb1, hcb2, hcb3, hcb4⟩ := hS.cbs
  refine j_iconst X (a := 0) dL_law_226 (q := 227) rfl ?_
  refine j_istore X (i := 5) dL_law_227 (by decide) (q := 229) rfl (lv' := [(5, .int (iI (0))), (3, .int (iI (1))), (2, .ref (o)), (1, .ref (ad 0 0)), (0, .ref (b))]) (by first | rfl | simp [cat_rf, cat_i, cat_l, cat_r]) ?_
  refine j_iconst X (a := 0) dL_law_229 (q := 230) rfl ?_
  refine j_istore X (i := 6) dL_law_230 (by decide) (q := 232) rfl (lv' := [(6, .int (iI (0))), (5, .int (iI (0))), (3, .int (iI (1))), (2, .ref (o)), (1, .ref (ad 0 0)), (0, .ref (b))]) (by first | rfl | simp [cat_rf, cat_i, cat_l, cat_r]) ?_
  have aft : J p l e room_1 s m args below meth cd Q D base 8 (kc + 200) (ks + 1200) 270 [(5, .int (iI (sm (S 32) nm.toNat))), (3, .int (iI (1))), (2, .ref (o)), (1, .ref (ad 0 0)), (0, .ref (b))] [] w := by
    refine j_iload_n X dL_law_270 (q := 271) rfl 1 rfl ?_
    refine j_if_eq X (tgt := 287) dL_law_271 (by decide) (q := 274) rfl (by omega) (fun c_271 => ?_) (fun c_271 => ?_)
    · skip
      exfalso; omega
    · skip
      refine j_iload X dL_law_274 (q := 276) rfl 0 rfl ?_
      refine j_aload_n X dL_law_276 (q := 277) rfl 3 rfl ?_
      refine j_callV X (As := []) (st := [.int (iI (sm (S 32) nm.toNat))]) hC.cal rfl (c_X3_calledBack hlt hC hI ) sv_L_65 (by decide) rfl (by first | decide | exact Nat.le_of_ble_eq_true rfl | simp [cat_rf, cat_i, cat_l, cat_r]) dL_law_277 ⟨by show _ ≤ 600104; omega, by show _ ≤ 7301314; omega⟩ (fun _ _ hE => hE.elim) ?_
      rintro v9 w9 ⟨rfl, rfl⟩
      refine j_st (st := [.int (iI (S 6 0)), .int (iI (sm (S 32) nm.toNat))]) ?_
      refine j_icmp_ne X (tgt := 287) dL_law_280 (by decide) (q := 283) rfl (by omega) (by omega) (fun c_280 => ?_) (fun c_280 => ?_)
      · skip
        exfalso; omega
      · skip
        refine j_iconst X (a := 1) dL_law_283 (q := 284) rfl ?_
        refine j_goto X (tgt := 288) dL_law_284 (by decide) ?_
        exact hend _ _ _ _ (by omega) (by omega)
  have loop : ∀ (j n9 : Nat) (x9 : Int), x9 = n9 → x9 + j = nm → J p l e room_1 s m args below meth cd Q D base 8 (kc + n9) (ks + 6 * n9) 232 [(6, .int (iI (x9))), (5, .int (iI (sm (S 32) x9.toNat))), (3, .int (iI (1))), (2, .ref (o)), (1, .ref (ad 0 0)), (0, .ref (b))] [] w := by
    intro j
    induction j with
    | zero =>
      intro n9 x9 hm hj
      have hxn : x9 = nm := by omega
      refine j_iload X dL_law_232 (q := 234) rfl 0 rfl ?_
      refine j_aload_n X dL_law_234 (q := 235) rfl 4 rfl ?_
      refine j_callV X (As := []) (st := [.int (iI (x9))]) hC.cal rfl (c_X3_measurements hlt hC hI ) sv_L_53 (by decide) rfl (by first | decide | exact Nat.le_of_ble_eq_true rfl | simp [cat_rf, cat_i, cat_l, cat_r]) dL_law_235 ⟨by show _ ≤ 600104; omega, by show _ ≤ 7301314; omega⟩ (fun _ _ hE => hE.elim) ?_
      rintro v9 w9 ⟨rfl, rfl⟩
      refine j_st (st := [.int (iI (S 4 0)), .int (iI (x9))]) ?_
      refine j_icmp_ge X (tgt := 270) dL_law_238 (by decide) (q := 241) rfl (by omega) (by omega) (fun c_238 => ?_) (fun c_238 => ?_)
      · skip
        rw [hxn]
        exact j_widen (by omega) (by omega) (j_lv aft [1, 2, 3, 4, 5] rfl)
      · skip
        exfalso; omega
    | succ j ih =>
      intro n9 x9 hm hj
      have hx9 : 0 ≤ x9 ∧ x9 < nm := by omega
      have h32 := (hI.mea hx9.1 hx9.2).2.2
      have hs32 := sm_s (f := S 32) hx9.1
      refine j_iload X dL_law_232 (q := 234) rfl 0 rfl ?_
      refine j_aload_n X dL_law_234 (q := 235) rfl 4 rfl ?_
      refine j_callV X (As := []) (st := [.int (iI (x9))]) hC.cal rfl (c_X3_measurements hlt hC hI ) sv_L_53 (by decide) rfl (by first | decide | exact Nat.le_of_ble_eq_true rfl | simp [cat_rf, cat_i, cat_l, cat_r]) dL_law_235 ⟨by show _ ≤ 600104; omega, by show _ ≤ 7301314; omega⟩ (fun _ _ hE => hE.elim) ?_
      rintro v9 w9 ⟨rfl, rfl⟩
      refine j_st (st := [.int (iI (S 4 0)), .int (iI (x9))]) ?_
      refine j_icmp_ge X (tgt := 270) dL_law_238 (by decide) (q := 241) rfl (by omega) (by omega) (fun c_238 => ?_) (fun c_238 => ?_)
      · skip
        exfalso; omega
      · skip
        refine j_iload_n X dL_law_241 (q := 242) rfl 2 rfl ?_
        refine j_if_eq X (tgt := 270) dL_law_242 (by decide) (q := 245) rfl (by omega) (fun c_242 => ?_) (fun c_242 => ?_)
        · skip
          exfalso; omega
        · skip
          refine j_iload X dL_law_245 (q := 247) rfl 1 rfl ?_
          refine j_aload_n X dL_law_247 (q := 248) rfl 4 rfl ?_
          refine j_iload X dL_law_248 (q := 250) rfl 0 rfl ?_
          refine j_callV X (As := [.int (iI (x9))]) (st := [.int (iI (sm (S 32) x9.toNat))]) hC.cal rfl (c_X3_isCalledBack hlt hC hI x9 (by omega)) sv_L_62 (by decide) rfl (by first | decide | exact Nat.le_of_ble_eq_true rfl | simp [cat_rf, cat_i, cat_l, cat_r]) dL_law_250 ⟨by show _ ≤ 600104; omega, by show _ ≤ 7301314; omega⟩ (fun _ _ hE => by exfalso; omega) ?_
          rintro v9 w9 ⟨-, rfl, rfl⟩
          refine j_st (st := [.int (iI (S 32 x9)), .int (iI (sm (S 32) x9.toNat))]) ?_
          have jn_v_5 : ∀ v_5 : Int, v_5 = S 32 x9 → J p l e room_1 s m args below meth cd Q D base 8 (kc + n9 + 1) (ks + 6 * n9 + 6) 261 [(6, .int (iI (x9))), (5, .int (iI (sm (S 32) x9.toNat))), (3, .int (iI (1))), (2, .ref (o)), (1, .ref (ad 0 0)), (0, .ref (b))] [.int (iI (v_5)), .int (iI (sm (S 32) x9.toNat))] w := by
            intro v_5 hv_5
            refine j_iadd X dL_law_261 (q := 262) rfl ?_
            refine j_istore X (i := 5) dL_law_262 (by decide) (q := 264) rfl (lv' := [(5, .int (iI ((sm (S 32) x9.toNat) + v_5))), (6, .int (iI (x9))), (3, .int (iI (1))), (2, .ref (o)), (1, .ref (ad 0 0)), (0, .ref (b))]) (by first | rfl | simp [cat_rf, cat_i, cat_l, cat_r]) ?_
            refine j_iinc X dL_law_264 1 rfl (by decide) (q := 267) rfl (lv' := [(6, .int (iI (x9 + 1))), (5, .int (iI ((sm (S 32) x9.toNat) + v_5))), (3, .int (iI (1))), (2, .ref (o)), (1, .ref (ad 0 0)), (0, .ref (b))]) (by first | rfl | simp [cat_rf, cat_i, cat_l, cat_r]) ?_
            refine j_goto X (tgt := 232) dL_law_267 (by decide) ?_
            have e8 : (sm (S 32) x9.toNat) + v_5 = sm (S 32) (x9 + 1).toNat := by rw [hs32, hv_5]
            rw [e8]
            exact j_widen (by omega) (by omega) (j_lv (ih (n9 + 1) (x9 + 1) (by omega) (by omega)) [0, 1, 2, 3, 4, 5] rfl)
          refine j_if_eq X (tgt := 260) dL_law_253 (by decide) (q := 256) rfl (by omega) (fun c_253 => ?_) (fun c_253 => ?_)
          · skip
            refine j_iconst X (a := 0) dL_law_260 (q := 261) rfl ?_
            exact j_widen (by omega) (by omega) (jn_v_5 _ (by omega))
          · skip
            refine j_iconst X (a := 1) dL_law_256 (q := 257) rfl ?_
            refine j_goto X (tgt := 261) dL_law_257 (by decide) ?_
            exact j_widen (by omega) (by omega) (jn_v_5 _ (by omega))
  exact j_widen (by omega) (by omega) (j_lv (loop nm.toNat 0 0 rfl (by omega)) [0, 1, 2, 3, 4, 5] rfl)

set_option maxRecDepth 100000 in
set_option maxHeartbeats 4000000 in
theorem law_c (X : Cx p l s m args meth cd ⟨RL, mn, ""⟩ code 8 ret D ca base) (hlt : l.stackTraces = false) {b L : Nat} {xs : Nat → Int32} (hX : va_X b L xs s s.heap) (hbl : b < s.heap.size) (hbA : ¬ base ≤ b) (hL : L ≤ 260) {ax o : Nat} (hbo : base ≤ o) (s9 : Int) (hs9 : 0 ≤ s9 ∧ s9 ≤ 60) (hend : ∀ (lv : List (Nat × Value)) (k n : Nat) (w : Wd), k ≤ 600104 → n ≤ 7301314 → J p l e room_1 s m args below meth cd Q D base 8 k n 288 lv [.int (iI (1))] w) : ∀ (j m9 : Nat) (k9 : Int) (w : Wd), k9 = m9 → k9 + j = s9 → LV base ca ax o k9 w → J p l e room_1 s m args below meth cd Q D base 8 (100 + 1600 * m9) (2000 + 9000 * m9) 71 [(5, .int (iI (k9))), (4, .int (iI (s9))), (3, .int (iI (1))), (2, .ref (o)), (1, .ref (ax)), (0, .ref (b))] [] w := by
  intro j
  induction j with
  | zero =>
    intro m9 k9 w hm hj hLV
    refine j_iload X dL_law_71 (q := 73) rfl 0 rfl ?_
    refine j_iload X dL_law_73 (q := 75) rfl 1 rfl ?_
    refine j_icmp_ge X (tgt := 226) dL_law_75 (by decide) (q := 78) rfl (by omega) (by omega) (fun c_75 => ?_) (fun c_75 => ?_)
    · skip
      exact j_lv (law_d X hlt hX hbl hbA hL hbo (by omega) (by omega) hLV hend) [2, 3, 4, 5] rfl
    · skip
      exfalso; omega
  | succ j ih =>
    intro m9 k9 w hm hj hLV
    refine j_iload X dL_law_71 (q := 73) rfl 0 rfl ?_
    refine j_iload X dL_law_73 (q := 75) rfl 1 rfl ?_
    refine j_icmp_ge X (tgt := 226) dL_law_75 (by decide) (q := 78) rfl (by omega) (by omega) (fun c_75 => ?_) (fun c_75 => ?_)
    · skip
      exfalso; omega
    · skip
      refine j_iload_n X dL_law_78 (q := 79) rfl 2 rfl ?_
      refine j_if_eq X (tgt := 226) dL_law_79 (by decide) (q := 82) rfl (by omega) (fun c_79 => ?_) (fun c_79 => ?_)
      · skip
        exfalso; omega
      · skip
        refine law_a X hlt hX hbl hbA hL hbo k9 s9 (by omega) (by omega) (by omega) hLV (fun b9 w1 hb9 hLV1 => ?_)
        refine law_b X hlt hX hbl hbA hL hbo k9 s9 (by omega) b9 hb9 (by omega) (by omega) hLV1 ?_
        refine j_iinc X dL_law_220 0 rfl (by decide) (q := 223) rfl (lv' := [(5, .int (iI (k9 + 1))), (4, .int (iI (s9))), (3, .int (iI (1))), (2, .ref (o)), (1, .ref (ax)), (0, .ref (b))]) (by first | rfl | simp [cat_rf, cat_i, cat_l, cat_r]) ?_
        refine j_goto X (tgt := 71) dL_law_223 (by decide) ?_
        exact j_widen (by omega) (by omega) (ih (m9 + 1) (k9 + 1) w1 (by omega) (by omega) hLV1)

set_option maxRecDepth 100000 in
set_option maxHeartbeats 4000000 in
theorem law_all (X : Cx p l s m args meth cd ⟨RL, mn, ""⟩ code 8 ret D ca base) (hlt : l.stackTraces = false) {b L : Nat} {xs : Nat → Int32} (hX : va_X b L xs s s.heap) (hbl : b < s.heap.size) (hbA : ¬ base ≤ b) (hL : L ≤ 260) (hend : ∀ (lv : List (Nat × Value)) (k n : Nat) (w : Wd), k ≤ 600104 → n ≤ 7301314 → J p l e room_1 s m args below meth cd Q D base 8 k n 288 lv [.int (iI (1))] w) : J p l e room_1 s m args below meth cd Q D base 8 0 0 0 [(0, .ref b)] [] (fun _ => none) := by
  refine j_new X nw_L_13 (by decide) (by decide) dL_law_0 (q := 3) rfl (fun a1 hb1 hn1 => ?_)
  refine j_dup X (by first | rfl | exact cat_rf _) dL_law_3 (q := 4) rfl ?_
  refine j_callI X (As := []) (st := [.ref a1]) (c_X3_init hlt a1 wu_s hb1) si_L_106 (by decide) rfl (Nat.le_of_ble_eq_true rfl) dL_law_4 (by decide) (fun _ _ h => h.elim) ?_
  rintro v9 w1 ⟨rfl, ⟨ad, had, hC1⟩, -⟩
  refine j_st (st := [.ref a1]) ?_
  refine j_astore_n X (i := 1) dL_law_7 rfl (by decide) (q := 8) rfl (lv' := [(1, .ref a1), (0, .ref b)]) rfl ?_
  refine j_bipush X (a := 37) (by decide +kernel) dL_law_8 (q := 10) rfl ?_
  refine j_newa X (N := 37) (t := 0) (ty := .int) (con := (37, .inl (tc (fun _ => 0)))) rfl rfl (fun C z => by cases z) ar_int (fun _ => rfl) (by decide) (by decide) (by decide) (by decide) dL_law_10 (q := 12) rfl (fun o hbo hno => ?_)
  have hC := hC1.fr (c := 1) (by decide) (Fr.new (e' := .inl (ca 0, 37, .inl (tc (fun _ => 0)))) hno)
  have ho : (wu w1 o (.inl (ca 0, 37, .inl (tc (fun _ => 0))))) o = some (eT ca (fun _ => 0)) := wu_s
  generalize wu w1 o (.inl (ca 0, 37, .inl (tc (fun _ => 0)))) = w at hC ho ⊢
  refine j_astore_n X (i := 2) dL_law_12 rfl (by decide) (q := 13) rfl (lv' := [(2, .ref o), (1, .ref a1), (0, .ref b)]) rfl ?_
  rw [← had]
  have hS := Sim0
  have hA : TA 0 S0 (fun _ => 0) := ⟨rfl, fun k a b => by omega⟩
  have hI := hS.1
  have hLV : LV base ca (ad 0 0) o 0 w := ⟨0, 0, 0, S0, S0, ad, _, hS, hC, ho, hA, rfl⟩
  refine j_widen (k' := 50) (n' := 1000) (by decide) (by decide) ?_
  refine j_aload_n X dL_law_13 (q := 14) rfl 1 rfl ?_
  refine j_callV X (As := []) (st := []) hC.cal rfl (c_X3_today hlt hC hI ) sv_L_43 (by decide) rfl (by first | decide | exact Nat.le_of_ble_eq_true rfl | simp [cat_rf, cat_i, cat_l, cat_r]) dL_law_14 ⟨by show _ ≤ 600104; omega, by show _ ≤ 7301314; omega⟩ (fun _ _ hE => hE.elim) ?_
  rintro v9 w9 ⟨rfl, rfl⟩
  refine j_st (st := [.int (iI (S0 7 0))]) ?_
  rw [show (S0 7 0 : Int) = 0 from rfl]
  refine j_if_ne X (tgt := 46) dL_law_17 (by decide) (q := 20) rfl (by omega) (fun c_17 => ?_) (fun c_17 => ?_)
  · skip
    exfalso; omega
  · skip
    refine j_aload_n X dL_law_20 (q := 21) rfl 1 rfl ?_
    refine j_callV X (As := []) (st := []) hC.cal rfl (c_X3_instruments hlt hC hI ) sv_L_18 (by decide) rfl (by first | decide | exact Nat.le_of_ble_eq_true rfl | simp [cat_rf, cat_i, cat_l, cat_r]) dL_law_21 ⟨by show _ ≤ 600104; omega, by show _ ≤ 7301314; omega⟩ (fun _ _ hE => hE.elim) ?_
    rintro v9 w9 ⟨rfl, rfl⟩
    refine j_st (st := [.int (iI (S0 3 0))]) ?_
    rw [show (S0 3 0 : Int) = 0 from rfl]
    refine j_if_ne X (tgt := 46) dL_law_24 (by decide) (q := 27) rfl (by omega) (fun c_24 => ?_) (fun c_24 => ?_)
    · skip
      exfalso; omega
    · skip
      refine j_aload_n X dL_law_27 (q := 28) rfl 1 rfl ?_
      refine j_callV X (As := []) (st := []) hC.cal rfl (c_X3_measurements hlt hC hI ) sv_L_53 (by decide) rfl (by first | decide | exact Nat.le_of_ble_eq_true rfl | simp [cat_rf, cat_i, cat_l, cat_r]) dL_law_28 ⟨by show _ ≤ 600104; omega, by show _ ≤ 7301314; omega⟩ (fun _ _ hE => hE.elim) ?_
      rintro v9 w9 ⟨rfl, rfl⟩
      refine j_st (st := [.int (iI (S0 4 0))]) ?_
      rw [show (S0 4 0 : Int) = 0 from rfl]
      refine j_if_ne X (tgt := 46) dL_law_31 (by decide) (q := 34) rfl (by omega) (fun c_31 => ?_) (fun c_31 => ?_)
      · skip
        exfalso; omega
      · skip
        refine j_aload_n X dL_law_34 (q := 35) rfl 1 rfl ?_
        refine j_iconst X (a := 1) dL_law_35 (q := 36) rfl ?_
        refine j_callV X (As := [.int (iI (1))]) (st := []) hC.cal rfl (c_X3_late hlt hC hI 1 (by omega)) sv_L_103 (by decide) rfl (by first | decide | exact Nat.le_of_ble_eq_true rfl | simp [cat_rf, cat_i, cat_l, cat_r]) dL_law_36 ⟨by show _ ≤ 600104; omega, by show _ ≤ 7301314; omega⟩ (fun _ _ hE => by exfalso; omega) ?_
        rintro v9 w9 ⟨-, rfl, rfl⟩
        refine j_st (st := [.int (iI (sm (latc S0 1) 12))]) ?_
        rw [show (sm (latc S0 1) 12 : Int) = 0 from sm_z fun i a _ => tf_f fun q => absurd q.1 (by show ¬ i < 0; omega)]
        refine j_if_ne X (tgt := 46) dL_law_39 (by decide) (q := 42) rfl (by omega) (fun c_39 => ?_) (fun c_39 => ?_)
        · skip
          exfalso; omega
        · skip
          refine j_iconst X (a := 1) dL_law_42 (q := 43) rfl ?_
          refine j_goto X (tgt := 47) dL_law_43 (by decide) ?_
          refine j_istore_n X (i := 3) dL_law_47 rfl (by decide) (q := 48) rfl (lv' := [(3, .int (iI (1))), (2, .ref (o)), (1, .ref (ad 0 0)), (0, .ref (b))]) (by first | rfl | simp [cat_rf, cat_i, cat_l, cat_r]) ?_
          refine j_aload_n X dL_law_48 (q := 49) rfl 3 rfl ?_
          refine j_slen X hX hbl hbA dL_law_49 (q := 50) rfl ?_
          have ht3 := td_b (a := (L : Int)) (b := 3) (by omega) (by decide)
          refine j_iconst X (a := 3) dL_law_50 (q := 51) rfl ?_
          refine j_idiv X (by omega) (by omega) dL_law_51 (q := 52) rfl ?_
          refine j_bipush X (a := 60) (by decide +kernel) dL_law_52 (q := 54) rfl ?_
          have jn_v_6 : ∀ v_6 : Int, 0 ≤ v_6 ∧ v_6 ≤ 60 → J p l e room_1 s m args below meth cd Q D base 8 (50 + 1) (1000 + 6) 66 [(3, .int (iI (1))), (2, .ref (o)), (1, .ref (ad 0 0)), (0, .ref (b))] [.int (iI (v_6))] w := by
            intro v_6 hv_6
            refine j_istore X (i := 4) dL_law_66 (by decide) (q := 68) rfl (lv' := [(4, .int (iI (v_6))), (3, .int (iI (1))), (2, .ref (o)), (1, .ref (ad 0 0)), (0, .ref (b))]) (by first | rfl | simp [cat_rf, cat_i, cat_l, cat_r]) ?_
            refine j_iconst X (a := 0) dL_law_68 (q := 69) rfl ?_
            refine j_istore X (i := 5) dL_law_69 (by decide) (q := 71) rfl (lv' := [(5, .int (iI (0))), (4, .int (iI (v_6))), (3, .int (iI (1))), (2, .ref (o)), (1, .ref (ad 0 0)), (0, .ref (b))]) (by first | rfl | simp [cat_rf, cat_i, cat_l, cat_r]) ?_
            exact j_widen (by omega) (by omega) (j_lv (law_c X hlt hX hbl hbA hL hbo v_6 (by omega) hend v_6.toNat 0 0 w rfl (by omega) hLV) [0, 1, 2, 3, 4, 5] rfl)
          refine j_icmp_le X (tgt := 62) dL_law_54 (by decide) (q := 57) rfl (by omega) (by omega) (fun c_54 => ?_) (fun c_54 => ?_)
          · skip
            refine j_aload_n X dL_law_62 (q := 63) rfl 3 rfl ?_
            refine j_slen X hX hbl hbA dL_law_63 (q := 64) rfl ?_
            refine j_iconst X (a := 3) dL_law_64 (q := 65) rfl ?_
            refine j_idiv X (by omega) (by omega) dL_law_65 (q := 66) rfl ?_
            exact j_widen (by omega) (by omega) (jn_v_6 _ (by omega))
          · skip
            refine j_bipush X (a := 60) (by decide +kernel) dL_law_57 (q := 59) rfl ?_
            refine j_goto X (tgt := 66) dL_law_59 (by decide) ?_
            exact j_widen (by omega) (by omega) (jn_v_6 _ (by omega))

end LAW
