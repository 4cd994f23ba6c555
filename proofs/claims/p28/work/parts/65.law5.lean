theorem TA.tell {n r t u : Int} {S S2 : St} {g : Int → Int} (hA : TA n S g) (hn : 0 ≤ n ∧ n < 12) (h14 : S2 14 n = r) (h11 : S2 11 n = t) (h12 : S2 12 n = u) (ho : ∀ gg j, (gg = 11 ∨ gg = 12 ∨ gg = 14) → j ≠ n → S2 gg j = S gg j) : TA (n + 1) S2 (gs (gs (gs (gs g n r) (12 + n) t) (24 + n) u) 36 (n + 1)) := by
  refine ⟨gs_s, fun k a b => ?_⟩
  by_cases e : k = n
  · subst e
    refine ⟨?_, ?_, ?_⟩
    · rw [gs_n (by omega), gs_n (by omega), gs_n (by omega), gs_s]; exact h14.symm
    · rw [gs_n (by omega), gs_n (by omega), gs_s]; exact h11.symm
    · rw [gs_n (by omega), gs_s]; exact h12.symm
  · obtain ⟨a1, a2, a3⟩ := hA.2 k a (by omega)
    rw [ho 14 k (by omega) e, ho 11 k (by omega) e, ho 12 k (by omega) e]
    refine ⟨?_, ?_, ?_⟩
    · rw [gs_n (by omega), gs_n (by omega), gs_n (by omega), gs_n e]; exact a1
    · rw [gs_n (by omega), gs_n (by omega), gs_n (by omega), gs_n (by omega)]; exact a2
    · rw [gs_n (by omega), gs_n (by omega), gs_n (by omega), gs_n (by omega)]; exact a3
theorem TA.refer {n z r : Int} {S : St} {g : Int → Int} (hA : TA n S g) (hn : n ≤ 12) (hz : 0 ≤ z ∧ z < n) : TA n (up S 14 z r) (gs g z r) := by
  refine ⟨by rw [gs_n (by omega)]; exact hA.1, fun k a b => ?_⟩
  obtain ⟨a1, a2, a3⟩ := hA.2 k a b
  rw [up_f (g := 11) (by decide), up_f (g := 12) (by decide), gs_n (j := 12 + k) (by omega), gs_n (j := 24 + k) (by omega)]
  refine ⟨?_, a2, a3⟩
  by_cases e : k = z
  · rw [e, up_s, gs_s]
  · rw [up_i e, gs_n e]; exact a1

set_option maxRecDepth 100000 in
set_option maxHeartbeats 4000000 in
theorem c_L_step {l : Launch} (hlt : l.stackTraces = false) {D : va_G} {ca : Nat → ClassId} {base : Nat} {ad : Nat → Int → Nat} {cn n nc nm : Int} {S T : St} {w : Wd} (hC : CW base ca ad n nc nm S w) (hS : Sim cn n nc nm S T) {o : Nat} {g : Int → Int} (ho : w o = some (eT ca g)) (hA : TA n S g) (hbo : base ≤ o) (wh aa bb : Int) (hwhb : 0 ≤ wh ∧ wh ≤ 2147483647) (haab : 0 ≤ aa ∧ aa ≤ 2147483647) (hbbb : 0 ≤ bb ∧ bb ≤ 2147483647) (hcn : cn ≤ 511) : CT l D ca base yL_step cL_step 9 (some .boolean) 7 20 130 [.ref (ad 0 0), .ref (o), .int (iI (wh)), .int (iI (aa)), .int (iI (bb))] w (fun v w' => v = some (.int (iI 1)) ∧ LV base ca (ad 0 0) o (cn + 1) w') (fun _ _ => False) := by
  have hI := hS.1
  obtain ⟨hn, hnc, hnm, e3, e4, e5, h6, h7, h8⟩ := hI.top
  have hca := hS.2.1.1
  have hdA := td_b (a := bb) (b := 4) (by omega) (by decide)
  have hdB := td_b (a := bb) (b := 64) (by omega) (by decide)
  have hdC := td_b (a := aa) (b := 60) (by omega) (by decide)
  have hdD := td_b (a := aa) (b := 12) (by omega) (by decide)
  refine CT.mk hlt (by decide +kernel) (by first | exact Nat.le_of_ble_eq_true rfl | simp [lg_sl, cat_rf, cat_i, cat_l, cat_r]) ?_
  intro p e s m args below meth c X htab
  rw [show lv_args 0 [.ref (ad 0 0), .ref (o), .int (iI (wh)), .int (iI (aa)), .int (iI (bb))] = [(0, .ref (ad 0 0)), (1, .ref (o)), (2, .int (iI (wh))), (3, .int (iI (aa))), (4, .int (iI (bb)))] from by first | rfl | simp [lv_args, cat_rf, cat_i, cat_l, cat_r]]
  refine j_aload_n X dL_step_0 (q := 1) rfl 1 rfl ?_
  refine j_bipush X (a := 36) (by decide +kernel) dL_step_1 (q := 3) rfl ?_
  refine j_tld X ho (by omega) dL_step_3 (q := 4) rfl ?_
  rw [hA.1]
  refine j_istore X (i := 5) dL_step_4 (by decide) (q := 6) rfl (lv' := [(5, .int (iI (n))), (0, .ref (ad 0 0)), (1, .ref (o)), (2, .int (iI (wh))), (3, .int (iI (aa))), (4, .int (iI (bb)))]) (by first | rfl | simp [cat_rf, cat_i, cat_l, cat_r]) ?_
  refine j_iload X dL_step_6 (q := 8) rfl 0 rfl ?_
  have mt_v_1 : (n < 12) → J p l e (Rm 7 20 130) s m args below meth c (vx_MQ below (Qn D base (fun v w' => v = some (.int (iI 1)) ∧ LV base ca (ad 0 0) o (cn + 1) w')) (Xn D base (fun _ _ => False)) args s 20 130 (fun q => base ≤ q)) D base 9 0 0 25 [(5, .int (iI (n))), (0, .ref (ad 0 0)), (1, .ref (o)), (2, .int (iI (wh))), (3, .int (iI (aa))), (4, .int (iI (bb)))] [] w := by
    intro hn12
    refine j_aload_n X dL_step_25 (q := 26) rfl 2 rfl ?_
    refine j_iload X dL_step_26 (q := 28) rfl 0 rfl ?_
    have jn_v_2 : ∀ v_2 : Int, v_2 = -1 ∨ (0 ≤ v_2 ∧ v_2 < n) → J p l e (Rm 7 20 130) s m args below meth c (vx_MQ below (Qn D base (fun v w' => v = some (.int (iI 1)) ∧ LV base ca (ad 0 0) o (cn + 1) w')) (Xn D base (fun _ _ => False)) args s 20 130 (fun q => base ≤ q)) D base 9 0 0 51 [(5, .int (iI (n))), (0, .ref (ad 0 0)), (1, .ref (o)), (2, .int (iI (wh))), (3, .int (iI (aa))), (4, .int (iI (bb)))] [.int (iI (v_2)), .int (iI (n)), .ref (o)] w := by
      intro v_2 hv_2
      refine j_tst X ho (by omega) hbo dL_step_51 (q := 52) rfl (fun w_3 hFw_3 how_3 => ?_)
      have hCw_3 := hC.fr (c := 1) (by decide) hFw_3
      refine j_aload_n X dL_step_52 (q := 53) rfl 2 rfl ?_
      refine j_bipush X (a := 12) (by decide +kernel) dL_step_53 (q := 55) rfl ?_
      refine j_iload X dL_step_55 (q := 57) rfl 0 rfl ?_
      refine j_iadd X dL_step_57 (q := 58) rfl ?_
      refine j_iconst X (a := 1) dL_step_58 (q := 59) rfl ?_
      refine j_iload_n X dL_step_59 (q := 60) rfl 4 rfl ?_
      have jn_v_4 : ∀ v_4 : Int, v_4 = 9999 ∨ v_4 = 60 → J p l e (Rm 7 20 130) s m args below meth c (vx_MQ below (Qn D base (fun v w' => v = some (.int (iI 1)) ∧ LV base ca (ad 0 0) o (cn + 1) w')) (Xn D base (fun _ _ => False)) args s 20 130 (fun q => base ≤ q)) D base 9 0 0 74 [(5, .int (iI (n))), (0, .ref (ad 0 0)), (1, .ref (o)), (2, .int (iI (wh))), (3, .int (iI (aa))), (4, .int (iI (bb)))] [.int (iI (v_4)), .int (iI (aa)), .int (iI (1)), .int (iI (12 + n)), .ref (o)] w_3 := by
        intro v_4 hv_4
        refine j_irem X (by omega) (by omega) dL_step_74 (q := 75) rfl ?_
        obtain ⟨r_5, er_5, br_5⟩ : ∃ r : Int, r = Int.tmod aa v_4 ∧ (0 ≤ r ∧ r < v_4) := ⟨_, rfl, tm_b (by omega) (by omega)⟩
        rw [← er_5]
        refine j_iadd X dL_step_75 (q := 76) rfl ?_
        refine j_tst X how_3 (by omega) hbo dL_step_76 (q := 77) rfl (fun w_6 hFw_6 how_6 => ?_)
        have hCw_6 := hCw_3.fr (c := 1) (by decide) hFw_6
        refine j_aload_n X dL_step_77 (q := 78) rfl 2 rfl ?_
        refine j_bipush X (a := 24) (by decide +kernel) dL_step_78 (q := 80) rfl ?_
        refine j_iload X dL_step_80 (q := 82) rfl 0 rfl ?_
        refine j_iadd X dL_step_82 (q := 83) rfl ?_
        refine j_iload_n X dL_step_83 (q := 84) rfl 4 rfl ?_
        refine j_bipush X (a := 60) (by decide +kernel) dL_step_84 (q := 86) rfl ?_
        refine j_idiv X (by omega) (by omega) dL_step_86 (q := 87) rfl ?_
        have jn_v_7 : ∀ v_7 : Int, v_7 = 1000 ∨ v_7 = 20 → J p l e (Rm 7 20 130) s m args below meth c (vx_MQ below (Qn D base (fun v w' => v = some (.int (iI 1)) ∧ LV base ca (ad 0 0) o (cn + 1) w')) (Xn D base (fun _ _ => False)) args s 20 130 (fun q => base ≤ q)) D base 9 0 0 101 [(5, .int (iI (n))), (0, .ref (ad 0 0)), (1, .ref (o)), (2, .int (iI (wh))), (3, .int (iI (aa))), (4, .int (iI (bb)))] [.int (iI (v_7)), .int (iI (Int.tdiv (aa) (60))), .int (iI (24 + n)), .ref (o)] w_6 := by
          intro v_7 hv_7
          refine j_irem X (by omega) (by omega) dL_step_101 (q := 102) rfl ?_
          obtain ⟨r_8, er_8, br_8⟩ : ∃ r : Int, r = Int.tmod (Int.tdiv (aa) (60)) v_7 ∧ (0 ≤ r ∧ r < v_7) := ⟨_, rfl, tm_b (by omega) (by omega)⟩
          rw [← er_8]
          refine j_tst X how_6 (by omega) hbo dL_step_102 (q := 103) rfl (fun w_9 hFw_9 how_9 => ?_)
          have hCw_9 := hCw_6.fr (c := 1) (by decide) hFw_9
          refine j_aload_n X dL_step_103 (q := 104) rfl 2 rfl ?_
          refine j_bipush X (a := 36) (by decide +kernel) dL_step_104 (q := 106) rfl ?_
          refine j_dup2 X rfl rfl dL_step_106 (q := 107) rfl ?_
          refine j_tld X how_9 (by omega) dL_step_107 (q := 108) rfl ?_
          rw [show (gs (gs (gs g n v_2) (12 + n) (1 + r_5)) (24 + n) r_8) 36 = n from by rw [gs_n (by omega), gs_n (by omega), gs_n (by omega)]; exact hA.1]
          refine j_iconst X (a := 1) dL_step_108 (q := 109) rfl ?_
          refine j_iadd X dL_step_109 (q := 110) rfl ?_
          refine j_tst X how_9 (by omega) hbo dL_step_110 (q := 111) rfl (fun w_10 hFw_10 how_10 => ?_)
          have hCw_10 := hCw_9.fr (c := 1) (by decide) hFw_10
          refine j_aload_n X dL_step_111 (q := 112) rfl 1 rfl ?_
          refine j_aload_n X dL_step_112 (q := 113) rfl 2 rfl ?_
          refine j_iload X dL_step_113 (q := 115) rfl 0 rfl ?_
          refine j_tld X how_10 (by omega) dL_step_115 (q := 116) rfl ?_
          rw [show (gs (gs (gs (gs g n v_2) (12 + n) (1 + r_5)) (24 + n) r_8) 36 (n + 1)) n = v_2 from by rw [gs_n (by omega), gs_n (by omega), gs_n (by omega), gs_s]]
          refine j_aload_n X dL_step_116 (q := 117) rfl 2 rfl ?_
          refine j_bipush X (a := 12) (by decide +kernel) dL_step_117 (q := 119) rfl ?_
          refine j_iload X dL_step_119 (q := 121) rfl 0 rfl ?_
          refine j_iadd X dL_step_121 (q := 122) rfl ?_
          refine j_tld X how_10 (by omega) dL_step_122 (q := 123) rfl ?_
          rw [show (gs (gs (gs (gs g n v_2) (12 + n) (1 + r_5)) (24 + n) r_8) 36 (n + 1)) (12 + n) = 1 + r_5 from by rw [gs_n (by omega), gs_n (by omega), gs_s]]
          refine j_aload_n X dL_step_123 (q := 124) rfl 2 rfl ?_
          refine j_bipush X (a := 24) (by decide +kernel) dL_step_124 (q := 126) rfl ?_
          refine j_iload X dL_step_126 (q := 128) rfl 0 rfl ?_
          refine j_iadd X dL_step_128 (q := 129) rfl ?_
          refine j_tld X how_10 (by omega) dL_step_129 (q := 130) rfl ?_
          rw [show (gs (gs (gs (gs g n v_2) (12 + n) (1 + r_5)) (24 + n) r_8) 36 (n + 1)) (24 + n) = r_8 from by rw [gs_n (by omega), gs_s]]
          refine j_iconst X (a := 1) dL_step_130 (q := 131) rfl ?_
          refine j_iload X dL_step_131 (q := 133) rfl 5 rfl ?_
          refine j_bipush X (a := 64) (by decide +kernel) dL_step_133 (q := 135) rfl ?_
          refine j_idiv X (by omega) (by omega) dL_step_135 (q := 136) rfl ?_
          have jn_v_11 : ∀ v_11 : Int, v_11 = 999 ∨ v_11 = 30 → J p l e (Rm 7 20 130) s m args below meth c (vx_MQ below (Qn D base (fun v w' => v = some (.int (iI 1)) ∧ LV base ca (ad 0 0) o (cn + 1) w')) (Xn D base (fun _ _ => False)) args s 20 130 (fun q => base ≤ q)) D base 9 0 0 151 [(5, .int (iI (n))), (0, .ref (ad 0 0)), (1, .ref (o)), (2, .int (iI (wh))), (3, .int (iI (aa))), (4, .int (iI (bb)))] [.int (iI (v_11)), .int (iI (Int.tdiv (bb) (64))), .int (iI (1)), .int (iI (r_8)), .int (iI (1 + r_5)), .int (iI (v_2)), .ref (ad 0 0)] w_10 := by
            intro v_11 hv_11
            refine j_irem X (by omega) (by omega) dL_step_151 (q := 152) rfl ?_
            obtain ⟨r_12, er_12, br_12⟩ : ∃ r : Int, r = Int.tmod (Int.tdiv (bb) (64)) v_11 ∧ (0 ≤ r ∧ r < v_11) := ⟨_, rfl, tm_b (by omega) (by omega)⟩
            rw [← er_12]
            refine j_iadd X dL_step_152 (q := 153) rfl ?_
            have hS2 := hS.tell hcn (r := v_2) (t := 1 + r_5) (u := r_8) (v := 1 + r_12) (by omega) ⟨by omega, by omega, by omega⟩ hn12
            obtain ⟨q11, q12, q14, q15, q16, q3⟩ := tl_new (S := S) (n := n) (t := 1 + r_5) (u := r_8) (v := 1 + r_12) (r := v_2)
            have qat : ∀ (gg : Nat) (j : Int), (gg = 11 ∨ gg = 12 ∨ gg = 14) → j ≠ n → tlS S n (1 + r_5) r_8 (1 + r_12) v_2 gg j = S gg j := fun gg j h1 h2 => tl_at ⟨by omega, Or.inr (Or.inr h2)⟩
            have hcall := c_X3_tell (D := D) hlt hCw_10 hI v_2 (1 + r_5) r_8 (1 + r_12) (by omega) (by omega) (by omega) (by omega)
            generalize tlS S n (1 + r_5) r_8 (1 + r_12) v_2 = S2 at *
            have hI2 := hS2.1
            have hzn : 0 ≤ n ∧ n < n + 1 := by omega
            refine j_callV X (As := [.int (iI (v_2)), .int (iI (1 + r_5)), .int (iI (r_8)), .int (iI (1 + r_12))]) (st := []) hCw_10.cal rfl hcall sv_L_12 (by decide) rfl (by first | decide | exact Nat.le_of_ble_eq_true rfl) dL_step_153 (by first | decide | exact ⟨by show _ ≤ (20 : Nat); omega, by show _ ≤ (130 : Nat); omega⟩) (fun _ _ hE => by exfalso; omega) ?_
            rintro v9 w2 ⟨-, rfl, ⟨ad2, hC2, had⟩, hF2⟩
            rw [← had]
            have ho2 := hF2 _ _ how_10 (by show (1 : Nat) ≠ 0; decide)
            refine j_st (st := [.int (iI (n))]) ?_
            refine j_iload X dL_step_156 (q := 158) rfl 0 rfl ?_
            refine j_icmp_ne X (tgt := 215) dL_step_158 (by decide) (q := 161) rfl (by omega) (by omega) (fun c_158 => ?_) (fun c_158 => ?_)
            · skip
              exact absurd rfl c_158
            · skip
              refine j_aload_n X dL_step_161 (q := 162) rfl 1 rfl ?_
              refine j_callV X (As := []) (st := []) hC2.cal rfl (c_X3_instruments hlt hC2 hI2 ) sv_L_18 (by decide) rfl (by first | decide | exact Nat.le_of_ble_eq_true rfl | simp [cat_rf, cat_i, cat_l, cat_r]) dL_step_162 (by first | decide | exact ⟨by show _ ≤ (20 : Nat); omega, by show _ ≤ (130 : Nat); omega⟩) (fun _ _ hE => hE.elim) ?_
              rintro v9 w9 ⟨rfl, rfl⟩
              refine j_st (st := [.int (iI (S2 3 0))]) ?_
              refine j_iload X dL_step_165 (q := 167) rfl 0 rfl ?_
              refine j_iconst X (a := 1) dL_step_167 (q := 168) rfl ?_
              refine j_iadd X dL_step_168 (q := 169) rfl ?_
              refine j_icmp_ne X (tgt := 215) dL_step_169 (by decide) (q := 172) rfl (by omega) (by omega) (fun c_169 => ?_) (fun c_169 => ?_)
              · skip
                exfalso; omega
              · skip
                refine j_aload_n X dL_step_172 (q := 173) rfl 1 rfl ?_
                refine j_iload X dL_step_173 (q := 175) rfl 0 rfl ?_
                refine j_callV X (As := [.int (iI (n))]) (st := []) hC2.cal rfl (c_X3_dueOf hlt hC2 hI2 n (by omega)) sv_L_22 (by decide) rfl (by first | decide | exact Nat.le_of_ble_eq_true rfl | simp [cat_rf, cat_i, cat_l, cat_r]) dL_step_175 (by first | decide | exact ⟨by show _ ≤ (20 : Nat); omega, by show _ ≤ (130 : Nat); omega⟩) (fun _ _ hE => by exfalso; omega) ?_
                rintro v9 w9 ⟨-, rfl, rfl⟩
                refine j_st (st := [.int (iI (if S2 15 n < 0 then -1 else S2 21 (S2 15 n) + S2 13 n))]) ?_
                rw [show (if S2 15 n < 0 then -1 else S2 21 (S2 15 n) + S2 13 n : Int) = -1 from if_pos (by omega)]
                refine j_iconst X (a := -1) dL_step_178 (q := 179) rfl ?_
                refine j_icmp_ne X (tgt := 215) dL_step_179 (by decide) (q := 182) rfl (by omega) (by omega) (fun c_179 => ?_) (fun c_179 => ?_)
                · skip
                  exfalso; omega
                · skip
                  refine j_aload_n X dL_step_182 (q := 183) rfl 1 rfl ?_
                  refine j_iload X dL_step_183 (q := 185) rfl 0 rfl ?_
                  refine j_callV X (As := [.int (iI (n))]) (st := []) hC2.cal rfl (c_X3_isSuspect hlt hC2 hI2 n (by omega)) sv_L_26 (by decide) rfl (by first | decide | exact Nat.le_of_ble_eq_true rfl | simp [cat_rf, cat_i, cat_l, cat_r]) dL_step_185 (by first | decide | exact ⟨by show _ ≤ (20 : Nat); omega, by show _ ≤ (130 : Nat); omega⟩) (fun _ _ hE => by exfalso; omega) ?_
                  rintro v9 w9 ⟨-, rfl, rfl⟩
                  refine j_st (st := [.int (iI (tf (0 ≤ S2 15 n ∧ S2 26 (S2 15 n) = 1)))]) ?_
                  rw [show (tf (0 ≤ S2 15 n ∧ S2 26 (S2 15 n) = 1) : Int) = 0 from tf_f (fun q => by omega)]
                  refine j_if_ne X (tgt := 215) dL_step_188 (by decide) (q := 191) rfl (by omega) (fun c_188 => ?_) (fun c_188 => ?_)
                  · skip
                    exfalso; omega
                  · skip
                    refine j_aload_n X dL_step_191 (q := 192) rfl 1 rfl ?_
                    refine j_iload X dL_step_192 (q := 194) rfl 0 rfl ?_
                    refine j_callV X (As := [.int (iI (n))]) (st := []) hC2.cal rfl (c_X3_failures hlt hC2 hI2 n (by omega)) sv_L_30 (by decide) rfl (by first | decide | exact Nat.le_of_ble_eq_true rfl | simp [cat_rf, cat_i, cat_l, cat_r]) dL_step_194 (by first | decide | exact ⟨by show _ ≤ (20 : Nat); omega, by show _ ≤ (130 : Nat); omega⟩) (fun _ _ hE => by exfalso; omega) ?_
                    rintro v9 w9 ⟨-, rfl, rfl⟩
                    refine j_st (st := [.int (iI (S2 16 n))]) ?_
                    refine j_if_ne X (tgt := 215) dL_step_197 (by decide) (q := 200) rfl (by omega) (fun c_197 => ?_) (fun c_197 => ?_)
                    · skip
                      exfalso; omega
                    · skip
                      refine j_aload_n X dL_step_200 (q := 201) rfl 1 rfl ?_
                      refine j_iload X dL_step_201 (q := 203) rfl 0 rfl ?_
                      refine j_callV X (As := [.int (iI (n))]) (st := []) hC2.cal rfl (c_X3_distrusted hlt hC2 hI2 n (by omega)) sv_L_33 (by decide) rfl (by first | decide | exact Nat.le_of_ble_eq_true rfl | simp [cat_rf, cat_i, cat_l, cat_r]) dL_step_203 (by first | decide | exact ⟨by show _ ≤ (20 : Nat); omega, by show _ ≤ (130 : Nat); omega⟩) (fun _ _ hE => by exfalso; omega) ?_
                      rintro v9 w9 ⟨-, rfl, rfl⟩
                      refine j_st (st := [.int (iI (fof (S2 14) (inF S2) 12 n))]) ?_
                      rw [show (fof (S2 14) (inF S2) 12 n : Int) = n from fof_e hzn.1 (inF_n (by omega))]
                      refine j_iload X dL_step_206 (q := 208) rfl 0 rfl ?_
                      refine j_icmp_ne X (tgt := 215) dL_step_208 (by decide) (q := 211) rfl (by omega) (by omega) (fun c_208 => ?_) (fun c_208 => ?_)
                      · skip
                        exfalso; omega
                      · skip
                        refine j_iconst X (a := 1) dL_step_211 (q := 212) rfl ?_
                        refine j_goto X (tgt := 216) dL_step_212 (by decide) ?_
                        exact j_zret X rfl (Or.inr rfl) dL_step_216 (⟨rfl, n + 1, nc, nm, S2, _, ad2, _, hS2, hC2, ho2, hA.tell (by omega) q14 q11 q12 qat, rfl⟩) (by first | decide | omega) (by first | decide | omega)
          refine j_iload X dL_step_136 (q := 138) rfl 5 rfl ?_
          refine j_iconst X (a := 2) dL_step_138 (q := 139) rfl ?_
          refine j_irem X (by omega) (by omega) dL_step_139 (q := 140) rfl ?_
          obtain ⟨r_13, er_13, br_13⟩ : ∃ r : Int, r = Int.tmod bb 2 ∧ (0 ≤ r ∧ r < 2) := ⟨_, rfl, tm_b (by omega) (by omega)⟩
          rw [← er_13]
          refine j_if_ne X (tgt := 149) dL_step_140 (by decide) (q := 143) rfl (by omega) (fun c_140 => ?_) (fun c_140 => ?_)
          · skip
            refine j_bipush X (a := 30) (by decide +kernel) dL_step_149 (q := 151) rfl ?_
            exact j_widen (by omega) (by omega) (jn_v_11 _ (by omega))
          · skip
            refine j_sipush X (a := 999) (by decide +kernel) dL_step_143 (q := 146) rfl ?_
            refine j_goto X (tgt := 151) dL_step_146 (by decide) ?_
            exact j_widen (by omega) (by omega) (jn_v_11 _ (by omega))
        refine j_iload_n X dL_step_87 (q := 88) rfl 4 rfl ?_
        refine j_iconst X (a := 2) dL_step_88 (q := 89) rfl ?_
        refine j_irem X (by omega) (by omega) dL_step_89 (q := 90) rfl ?_
        obtain ⟨r_14, er_14, br_14⟩ : ∃ r : Int, r = Int.tmod aa 2 ∧ (0 ≤ r ∧ r < 2) := ⟨_, rfl, tm_b (by omega) (by omega)⟩
        rw [← er_14]
        refine j_if_ne X (tgt := 99) dL_step_90 (by decide) (q := 93) rfl (by omega) (fun c_90 => ?_) (fun c_90 => ?_)
        · skip
          refine j_bipush X (a := 20) (by decide +kernel) dL_step_99 (q := 101) rfl ?_
          exact j_widen (by omega) (by omega) (jn_v_7 _ (by omega))
        · skip
          refine j_sipush X (a := 1000) (by decide +kernel) dL_step_93 (q := 96) rfl ?_
          refine j_goto X (tgt := 101) dL_step_96 (by decide) ?_
          exact j_widen (by omega) (by omega) (jn_v_7 _ (by omega))
      refine j_iload_n X dL_step_60 (q := 61) rfl 4 rfl ?_
      refine j_iconst X (a := 3) dL_step_61 (q := 62) rfl ?_
      refine j_irem X (by omega) (by omega) dL_step_62 (q := 63) rfl ?_
      obtain ⟨r_15, er_15, br_15⟩ : ∃ r : Int, r = Int.tmod aa 3 ∧ (0 ≤ r ∧ r < 3) := ⟨_, rfl, tm_b (by omega) (by omega)⟩
      rw [← er_15]
      refine j_if_ne X (tgt := 72) dL_step_63 (by decide) (q := 66) rfl (by omega) (fun c_63 => ?_) (fun c_63 => ?_)
      · skip
        refine j_bipush X (a := 60) (by decide +kernel) dL_step_72 (q := 74) rfl ?_
        exact j_widen (by omega) (by omega) (jn_v_4 _ (by omega))
      · skip
        refine j_sipush X (a := 9999) (by decide +kernel) dL_step_66 (q := 69) rfl ?_
        refine j_goto X (tgt := 74) dL_step_69 (by decide) ?_
        exact j_widen (by omega) (by omega) (jn_v_4 _ (by omega))
    refine j_iload X dL_step_28 (q := 30) rfl 0 rfl ?_
    refine j_if_eq X (tgt := 40) dL_step_30 (by decide) (q := 33) rfl (by omega) (fun c_30 => ?_) (fun c_30 => ?_)
    · skip
      refine j_iconst X (a := -1) dL_step_40 (q := 41) rfl ?_
      refine j_goto X (tgt := 51) dL_step_41 (by decide) ?_
      exact j_widen (by omega) (by omega) (jn_v_2 _ (by omega))
    · skip
      refine j_iload X dL_step_33 (q := 35) rfl 5 rfl ?_
      refine j_iconst X (a := 4) dL_step_35 (q := 36) rfl ?_
      refine j_irem X (by omega) (by omega) dL_step_36 (q := 37) rfl ?_
      obtain ⟨r_16, er_16, br_16⟩ : ∃ r : Int, r = Int.tmod bb 4 ∧ (0 ≤ r ∧ r < 4) := ⟨_, rfl, tm_b (by omega) (by omega)⟩
      rw [← er_16]
      refine j_if_ne X (tgt := 44) dL_step_37 (by decide) (q := 40) rfl (by omega) (fun c_37 => ?_) (fun c_37 => ?_)
      · skip
        refine j_iload X dL_step_44 (q := 46) rfl 5 rfl ?_
        refine j_iconst X (a := 4) dL_step_46 (q := 47) rfl ?_
        refine j_idiv X (by omega) (by omega) dL_step_47 (q := 48) rfl ?_
        refine j_iload X dL_step_48 (q := 50) rfl 0 rfl ?_
        refine j_irem X (by omega) (by omega) dL_step_50 (q := 51) rfl ?_
        obtain ⟨r_17, er_17, br_17⟩ : ∃ r : Int, r = Int.tmod (Int.tdiv (bb) (4)) n ∧ (0 ≤ r ∧ r < n) := ⟨_, rfl, tm_b (by omega) (by omega)⟩
        rw [← er_17]
        exact j_widen (by omega) (by omega) (jn_v_2 _ (by omega))
      · skip
        refine j_iconst X (a := -1) dL_step_40 (q := 41) rfl ?_
        refine j_goto X (tgt := 51) dL_step_41 (by decide) ?_
        exact j_widen (by omega) (by omega) (jn_v_2 _ (by omega))
  have mt_v_18 : (1 ≤ n) → J p l e (Rm 7 20 130) s m args below meth c (vx_MQ below (Qn D base (fun v w' => v = some (.int (iI 1)) ∧ LV base ca (ad 0 0) o (cn + 1) w')) (Xn D base (fun _ _ => False)) args s 20 130 (fun q => base ≤ q)) D base 9 0 0 217 [(5, .int (iI (n))), (0, .ref (ad 0 0)), (1, .ref (o)), (2, .int (iI (wh))), (3, .int (iI (aa))), (4, .int (iI (bb)))] [] w := by
    intro hn1
    refine j_iload_n X dL_step_217 (q := 218) rfl 4 rfl ?_
    refine j_iload X dL_step_218 (q := 220) rfl 0 rfl ?_
    refine j_irem X (by omega) (by omega) dL_step_220 (q := 221) rfl ?_
    obtain ⟨r_19, er_19, br_19⟩ : ∃ r : Int, r = Int.tmod aa n ∧ (0 ≤ r ∧ r < n) := ⟨_, rfl, tm_b (by omega) (by omega)⟩
    rw [← er_19]
    obtain ⟨i0, i1, i2, i3, i4, i5, i6, i17, i18⟩ := hI.ins br_19.1 br_19.2
    refine j_istore X (i := 6) dL_step_221 (by decide) (q := 223) rfl (lv' := [(6, .int (iI (r_19))), (5, .int (iI (n))), (0, .ref (ad 0 0)), (1, .ref (o)), (2, .int (iI (wh))), (3, .int (iI (aa))), (4, .int (iI (bb)))]) (by first | rfl | simp [cat_rf, cat_i, cat_l, cat_r]) ?_
    refine j_iload_n X dL_step_223 (q := 224) rfl 4 rfl ?_
    refine j_bipush X (a := 11) (by decide +kernel) dL_step_224 (q := 226) rfl ?_
    refine j_irem X (by omega) (by omega) dL_step_226 (q := 227) rfl ?_
    obtain ⟨r_20, er_20, br_20⟩ : ∃ r : Int, r = Int.tmod wh 11 ∧ (0 ≤ r ∧ r < 11) := ⟨_, rfl, tm_b (by omega) (by omega)⟩
    rw [← er_20]
    refine j_iconst X (a := 1) dL_step_227 (q := 228) rfl ?_
    refine j_icmp_ne X (tgt := 322) dL_step_228 (by decide) (q := 231) rfl (by omega) (by omega) (fun c_228 => ?_) (fun c_228 => ?_)
    · skip
      refine j_iload_n X dL_step_322 (q := 323) rfl 4 rfl ?_
      refine j_bipush X (a := 11) (by decide +kernel) dL_step_323 (q := 325) rfl ?_
      refine j_irem X (by omega) (by omega) dL_step_325 (q := 326) rfl ?_
      obtain ⟨r_21, er_21, br_21⟩ : ∃ r : Int, r = Int.tmod wh 11 ∧ (0 ≤ r ∧ r < 11) := ⟨_, rfl, tm_b (by omega) (by omega)⟩
      rw [← er_21]
      refine j_iconst X (a := 2) dL_step_326 (q := 327) rfl ?_
      refine j_icmp_ne X (tgt := 392) dL_step_327 (by decide) (q := 330) rfl (by omega) (by omega) (fun c_327 => ?_) (fun c_327 => ?_)
      · skip
        refine j_iload_n X dL_step_392 (q := 393) rfl 4 rfl ?_
        refine j_bipush X (a := 11) (by decide +kernel) dL_step_393 (q := 395) rfl ?_
        refine j_irem X (by omega) (by omega) dL_step_395 (q := 396) rfl ?_
        obtain ⟨r_22, er_22, br_22⟩ : ∃ r : Int, r = Int.tmod wh 11 ∧ (0 ≤ r ∧ r < 11) := ⟨_, rfl, tm_b (by omega) (by omega)⟩
        rw [← er_22]
        refine j_bipush X (a := 7) (by decide +kernel) dL_step_396 (q := 398) rfl ?_
        refine j_icmp_ge X (tgt := 471) dL_step_398 (by decide) (q := 401) rfl (by omega) (by omega) (fun c_398 => ?_) (fun c_398 => ?_)
        · skip
          have hbf := fof_r (ref := S 14) (inF := inF S) (n := n) (fun i a b => (hI.ins a b).2.2.2.2.1) 12 r_19 (by omega) br_19.2 (by omega)
          have mt_v_23 : J p l e (Rm 7 20 130) s m args below meth c (vx_MQ below (Qn D base (fun v w' => v = some (.int (iI 1)) ∧ LV base ca (ad 0 0) o (cn + 1) w')) (Xn D base (fun _ _ => False)) args s 20 130 (fun q => base ≤ q)) D base 9 1 6 491 [(6, .int (iI (r_19))), (5, .int (iI (n))), (0, .ref (ad 0 0)), (1, .ref (o)), (2, .int (iI (wh))), (3, .int (iI (aa))), (4, .int (iI (bb)))] [] w := by
            refine j_aload_n X dL_step_491 (q := 492) rfl 2 rfl ?_
            refine j_callV X (As := []) (st := []) hC.cal rfl (c_X3_measurements hlt hC hI ) sv_L_53 (by decide) rfl (by first | decide | exact Nat.le_of_ble_eq_true rfl | simp [cat_rf, cat_i, cat_l, cat_r]) dL_step_492 (by first | decide | exact ⟨by show _ ≤ (20 : Nat); omega, by show _ ≤ (130 : Nat); omega⟩) (fun _ _ hE => hE.elim) ?_
            rintro v9 w9 ⟨rfl, rfl⟩
            refine j_st (st := [.int (iI (S 4 0))]) ?_
            refine j_sipush X (a := 200) (by decide +kernel) dL_step_495 (q := 498) rfl ?_
            refine j_icmp_gt X (tgt := 505) dL_step_498 (by decide) (q := 501) rfl (by omega) (by omega) (fun c_498 => ?_) (fun c_498 => ?_)
            · skip
              exfalso; omega
            · skip
              refine j_iconst X (a := 1) dL_step_501 (q := 502) rfl ?_
              refine j_goto X (tgt := 506) dL_step_502 (by decide) ?_
              exact j_zret X rfl (Or.inr rfl) dL_step_506 (⟨rfl, n, nc, nm, S, T, ad, g, hS.le (by omega) (by omega), hC, ho, hA, rfl⟩) (by first | decide | omega) (by first | decide | omega)
          refine j_aload_n X dL_step_471 (q := 472) rfl 2 rfl ?_
          refine j_iload X dL_step_472 (q := 474) rfl 0 rfl ?_
          refine j_callV X (As := [.int (iI (r_19))]) (st := []) hC.cal rfl (c_X3_distrusted hlt hC hI r_19 (by omega)) sv_L_33 (by decide) rfl (by first | decide | exact Nat.le_of_ble_eq_true rfl | simp [cat_rf, cat_i, cat_l, cat_r]) dL_step_474 (by first | decide | exact ⟨by show _ ≤ (20 : Nat); omega, by show _ ≤ (130 : Nat); omega⟩) (fun _ _ hE => by exfalso; omega) ?_
          rintro v9 w9 ⟨-, rfl, rfl⟩
          refine j_st (st := [.int (iI (fof (S 14) (inF S) 12 r_19))]) ?_
          refine j_iconst X (a := -1) dL_step_477 (q := 478) rfl ?_
          refine j_icmp_ne X (tgt := 491) dL_step_478 (by decide) (q := 481) rfl (by omega) (by omega) (fun c_478 => ?_) (fun c_478 => ?_)
          · skip
            exact j_widen (by omega) (by omega) mt_v_23
          · skip
            refine j_aload_n X dL_step_481 (q := 482) rfl 2 rfl ?_
            refine j_callV X (As := []) (st := []) hC.cal rfl (c_X3_measurements hlt hC hI ) sv_L_53 (by decide) rfl (by first | decide | exact Nat.le_of_ble_eq_true rfl | simp [cat_rf, cat_i, cat_l, cat_r]) dL_step_482 (by first | decide | exact ⟨by show _ ≤ (20 : Nat); omega, by show _ ≤ (130 : Nat); omega⟩) (fun _ _ hE => hE.elim) ?_
            rintro v9 w9 ⟨rfl, rfl⟩
            refine j_st (st := [.int (iI (S 4 0))]) ?_
            refine j_sipush X (a := 200) (by decide +kernel) dL_step_485 (q := 488) rfl ?_
            refine j_icmp_ne X (tgt := 507) dL_step_488 (by decide) (q := 491) rfl (by omega) (by omega) (fun c_488 => ?_) (fun c_488 => ?_)
            · skip
              have hl : 0 ≤ S 15 r_19 := by
                have hne : inF S r_19 ≠ 0 := fun q => by
                  have h9 := c_478
                  rw [fof_e br_19.1 q] at h9
                  omega
                exact (tf_1 hne).1
              have hnm2 : nm < 200 := by omega
              have hS2 := hS.measure hcn br_19 hl hnm2
              have hI2 := hS2.1
              have hst := hS.me_stake hcn br_19 hl
              obtain ⟨-, q32, -⟩ := me_new (S := S) (nm := nm) (z := r_19)
              have qat : ∀ (gg : Nat) (j : Int), (gg = 11 ∨ gg = 12 ∨ gg = 14 ∨ gg = 15) → meS S nm r_19 gg j = S gg j := fun gg j h1 => me_at ⟨by omega, by omega, Or.inl (by omega)⟩
              have hcall := c_X3_measure (D := D) hlt hC hI r_19 (by omega)
              have hsb := sm_b (f := stk S (S 15 r_19)) (stk_b S (S 15 r_19)) nm.toNat
              generalize meS S nm r_19 = S2 at *
              have hA2 : TA n S2 g := ⟨hA.1, fun k a b => by rw [qat 14 k (by omega), qat 11 k (by omega), qat 12 k (by omega)]; exact hA.2 k a b⟩
              have q15 := qat 15 r_19 (by omega)
              refine j_aload_n X dL_step_507 (q := 508) rfl 2 rfl ?_
              refine j_callV X (As := []) (st := []) hC.cal rfl (c_X3_measurements hlt hC hI ) sv_L_53 (by decide) rfl (by first | decide | exact Nat.le_of_ble_eq_true rfl | simp [cat_rf, cat_i, cat_l, cat_r]) dL_step_508 (by first | decide | exact ⟨by show _ ≤ (20 : Nat); omega, by show _ ≤ (130 : Nat); omega⟩) (fun _ _ hE => hE.elim) ?_
              rintro v9 w9 ⟨rfl, rfl⟩
              refine j_st (st := [.int (iI (S 4 0))]) ?_
              rw [show (S 4 0 : Int) = nm from e4]
              refine j_istore X (i := 7) dL_step_511 (by decide) (q := 513) rfl (lv' := [(7, .int (iI (nm))), (6, .int (iI (r_19))), (5, .int (iI (n))), (0, .ref (ad 0 0)), (1, .ref (o)), (2, .int (iI (wh))), (3, .int (iI (aa))), (4, .int (iI (bb)))]) (by first | rfl | simp [cat_rf, cat_i, cat_l, cat_r]) ?_
              refine j_aload_n X dL_step_513 (q := 514) rfl 3 rfl ?_
              refine j_iload X dL_step_514 (q := 516) rfl 1 rfl ?_
              refine j_callV X (As := [.int (iI (r_19))]) (st := []) hC.cal rfl (c_X3_atStake hlt hC hI r_19 (by omega)) sv_L_56 (by decide) rfl (by first | decide | exact Nat.le_of_ble_eq_true rfl | simp [cat_rf, cat_i, cat_l, cat_r]) dL_step_516 (by first | decide | exact ⟨by show _ ≤ (20 : Nat); omega, by show _ ≤ (130 : Nat); omega⟩) (fun _ _ hE => by exfalso; omega) ?_
              rintro v9 w9 ⟨-, rfl, rfl⟩
              refine j_st (st := [.int (iI (if S 15 r_19 < 0 then 0 else sm (stk S (S 15 r_19)) nm.toNat))]) ?_
              rw [show (if S 15 r_19 < 0 then 0 else sm (stk S (S 15 r_19)) nm.toNat : Int) = sm (stk S (S 15 r_19)) nm.toNat from if_neg (by omega)]
              refine j_istore X (i := 8) dL_step_519 (by decide) (q := 521) rfl (lv' := [(8, .int (iI (sm (stk S (S 15 r_19)) nm.toNat))), (7, .int (iI (nm))), (6, .int (iI (r_19))), (5, .int (iI (n))), (0, .ref (ad 0 0)), (1, .ref (o)), (2, .int (iI (wh))), (3, .int (iI (aa))), (4, .int (iI (bb)))]) (by first | rfl | simp [cat_rf, cat_i, cat_l, cat_r]) ?_
              refine j_aload_n X dL_step_521 (q := 522) rfl 4 rfl ?_
              refine j_iload X dL_step_522 (q := 524) rfl 2 rfl ?_
              refine j_callV X (As := [.int (iI (r_19))]) (st := []) hC.cal rfl hcall sv_L_59 (by decide) rfl (by first | decide | exact Nat.le_of_ble_eq_true rfl) dL_step_524 (by first | decide | exact ⟨by show _ ≤ (20 : Nat); omega, by show _ ≤ (130 : Nat); omega⟩) (fun _ _ hE => by exfalso; omega) ?_
              rintro v9 w2 ⟨-, rfl, ⟨ad2, hC2, had⟩, hF2⟩
              rw [← had]
              have ho2 := hF2 _ _ ho (by show (1 : Nat) ≠ 0; decide)
              refine j_st (st := [.int (iI (nm))]) ?_
              refine j_iload X dL_step_527 (q := 529) rfl 1 rfl ?_
              refine j_icmp_ne X (tgt := 558) dL_step_529 (by decide) (q := 532) rfl (by omega) (by omega) (fun c_529 => ?_) (fun c_529 => ?_)
              · skip
                exact absurd rfl c_529
              · skip
                refine j_aload_n X dL_step_532 (q := 533) rfl 4 rfl ?_
                refine j_iload X dL_step_533 (q := 535) rfl 1 rfl ?_
                refine j_callV X (As := [.int (iI (nm))]) (st := []) hC2.cal rfl (c_X3_isCalledBack hlt hC2 hI2 nm (by omega)) sv_L_62 (by decide) rfl (by first | decide | exact Nat.le_of_ble_eq_true rfl | simp [cat_rf, cat_i, cat_l, cat_r]) dL_step_535 (by first | decide | exact ⟨by show _ ≤ (20 : Nat); omega, by show _ ≤ (130 : Nat); omega⟩) (fun _ _ hE => by exfalso; omega) ?_
                rintro v9 w9 ⟨-, rfl, rfl⟩
                refine j_st (st := [.int (iI (S2 32 nm))]) ?_
                rw [show (S2 32 nm : Int) = 0 from q32]
                refine j_if_ne X (tgt := 558) dL_step_538 (by decide) (q := 541) rfl (by omega) (fun c_538 => ?_) (fun c_538 => ?_)
                · skip
                  exfalso; omega
                · skip
                  refine j_aload_n X dL_step_541 (q := 542) rfl 4 rfl ?_
                  refine j_iload X dL_step_542 (q := 544) rfl 2 rfl ?_
                  refine j_callV X (As := [.int (iI (r_19))]) (st := []) hC2.cal rfl (c_X3_atStake hlt hC2 hI2 r_19 (by omega)) sv_L_56 (by decide) rfl (by first | decide | exact Nat.le_of_ble_eq_true rfl | simp [cat_rf, cat_i, cat_l, cat_r]) dL_step_544 (by first | decide | exact ⟨by show _ ≤ (20 : Nat); omega, by show _ ≤ (130 : Nat); omega⟩) (fun _ _ hE => by exfalso; omega) ?_
                  rintro v9 w9 ⟨-, rfl, rfl⟩
                  refine j_st (st := [.int (iI (if S2 15 r_19 < 0 then 0 else sm (stk S2 (S2 15 r_19)) (nm + 1).toNat))]) ?_
                  rw [show (if S2 15 r_19 < 0 then 0 else sm (stk S2 (S2 15 r_19)) (nm + 1).toNat : Int) = sm (stk S (S 15 r_19)) nm.toNat + 1 from by rw [q15, if_neg (by omega), hst]]
                  refine j_iload X dL_step_547 (q := 549) rfl 0 rfl ?_
                  refine j_iconst X (a := 1) dL_step_549 (q := 550) rfl ?_
                  refine j_iadd X dL_step_550 (q := 551) rfl ?_
                  refine j_icmp_ne X (tgt := 558) dL_step_551 (by decide) (q := 554) rfl (by omega) (by omega) (fun c_551 => ?_) (fun c_551 => ?_)
                  · skip
                    exfalso; omega
                  · skip
                    refine j_iconst X (a := 1) dL_step_554 (q := 555) rfl ?_
                    refine j_goto X (tgt := 559) dL_step_555 (by decide) ?_
                    exact j_zret X rfl (Or.inr rfl) dL_step_559 (⟨rfl, n, nc, nm + 1, S2, _, ad2, g, hS2, hC2, ho2, hA2, rfl⟩) (by first | decide | omega) (by first | decide | omega)
            · skip
              exact j_widen (by omega) (by omega) mt_v_23
        · skip
          have mt_v_24 : (S 14 r_19 = -1 ∨ fof (S 14) (inF S) 12 (S 14 r_19) = -1) → J p l e (Rm 7 20 130) s m args below meth c (vx_MQ below (Qn D base (fun v w' => v = some (.int (iI 1)) ∧ LV base ca (ad 0 0) o (cn + 1) w')) (Xn D base (fun _ _ => False)) args s 20 130 (fun q => base ≤ q)) D base 9 1 6 421 [(6, .int (iI (r_19))), (5, .int (iI (n))), (0, .ref (ad 0 0)), (1, .ref (o)), (2, .int (iI (wh))), (3, .int (iI (aa))), (4, .int (iI (bb)))] [] w := by
            intro hfo
            refine j_aload_n X dL_step_421 (q := 422) rfl 2 rfl ?_
            refine j_aload_n X dL_step_422 (q := 423) rfl 3 rfl ?_
            refine j_iload X dL_step_423 (q := 425) rfl 0 rfl ?_
            refine j_iload_n X dL_step_425 (q := 426) rfl 5 rfl ?_
            refine j_bipush X (a := 12) (by decide +kernel) dL_step_426 (q := 428) rfl ?_
            refine j_idiv X (by omega) (by omega) dL_step_428 (q := 429) rfl ?_
            refine j_iconst X (a := 2) dL_step_429 (q := 430) rfl ?_
            refine j_aload_n X dL_step_430 (q := 431) rfl 3 rfl ?_
            refine j_bipush X (a := 12) (by decide +kernel) dL_step_431 (q := 433) rfl ?_
            refine j_iload X dL_step_433 (q := 435) rfl 0 rfl ?_
            refine j_iadd X dL_step_435 (q := 436) rfl ?_
            refine j_tld X ho (by omega) dL_step_436 (q := 437) rfl ?_
            rw [(hA.2 r_19 br_19.1 br_19.2).2.1]
            refine j_imul X dL_step_437 (q := 438) rfl ?_
            refine j_iconst X (a := 3) dL_step_438 (q := 439) rfl ?_
            refine j_iadd X dL_step_439 (q := 440) rfl ?_
            refine j_irem X (by omega) (by omega) dL_step_440 (q := 441) rfl ?_
            obtain ⟨r_25, er_25, br_25⟩ : ∃ r : Int, r = Int.tmod (Int.tdiv (aa) (12)) ((2 * (S 11 r_19)) + 3) ∧ (0 ≤ r ∧ r < (2 * (S 11 r_19)) + 3) := ⟨_, rfl, tm_b (by omega) (by omega)⟩
            rw [← er_25]
            refine j_aload_n X dL_step_441 (q := 442) rfl 3 rfl ?_
            refine j_bipush X (a := 12) (by decide +kernel) dL_step_442 (q := 444) rfl ?_
            refine j_iload X dL_step_444 (q := 446) rfl 0 rfl ?_
            refine j_iadd X dL_step_446 (q := 447) rfl ?_
            refine j_tld X ho (by omega) dL_step_447 (q := 448) rfl ?_
            rw [(hA.2 r_19 br_19.1 br_19.2).2.1]
            refine j_isub X dL_step_448 (q := 449) rfl ?_
            refine j_iconst X (a := 1) dL_step_449 (q := 450) rfl ?_
            refine j_isub X dL_step_450 (q := 451) rfl ?_
            refine j_iload X dL_step_451 (q := 453) rfl 6 rfl ?_
            refine j_bipush X (a := 50) (by decide +kernel) dL_step_453 (q := 455) rfl ?_
            refine j_irem X (by omega) (by omega) dL_step_455 (q := 456) rfl ?_
            obtain ⟨r_26, er_26, br_26⟩ : ∃ r : Int, r = Int.tmod bb 50 ∧ (0 ≤ r ∧ r < 50) := ⟨_, rfl, tm_b (by omega) (by omega)⟩
            rw [← er_26]
            refine j_bipush X (a := 25) (by decide +kernel) dL_step_456 (q := 458) rfl ?_
            refine j_isub X dL_step_458 (q := 459) rfl ?_
            refine j_callS X (As := [.ref (ad 0 0), .ref (o), .int (iI (r_19)), .int (iI ((r_25 - (S 11 r_19)) - 1)), .int (iI (r_26 - 25))]) (st := []) (c_L_calibrates hlt hC hS ho hA r_19 ((r_25 - (S 11 r_19)) - 1) (r_26 - 25) br_19 (by omega) (by omega) hfo hcn) ss_L_49 (by decide) rfl (by first | decide | exact Nat.le_of_ble_eq_true rfl) dL_step_459 (by first | decide | exact ⟨by show _ ≤ (20 : Nat); omega, by show _ ≤ (130 : Nat); omega⟩) (fun _ _ h => h.elim) ?_
            rintro v9 w2 ⟨rfl, hLV⟩
            refine j_st (st := [.int (iI (1))]) ?_
            refine j_if_eq X (tgt := 469) dL_step_462 (by decide) (q := 465) rfl (by omega) (fun c_462 => ?_) (fun c_462 => ?_)
            · skip
              exfalso; omega
            · skip
              refine j_iconst X (a := 1) dL_step_465 (q := 466) rfl ?_
              refine j_goto X (tgt := 470) dL_step_466 (by decide) ?_
              exact j_zret X rfl (Or.inr rfl) dL_step_470 (⟨rfl, hLV⟩) (by first | decide | omega) (by first | decide | omega)
          refine j_aload_n X dL_step_401 (q := 402) rfl 3 rfl ?_
          refine j_iload X dL_step_402 (q := 404) rfl 0 rfl ?_
          refine j_tld X ho (by omega) dL_step_404 (q := 405) rfl ?_
          rw [(hA.2 r_19 br_19.1 br_19.2).1]
          refine j_iconst X (a := -1) dL_step_405 (q := 406) rfl ?_
          refine j_icmp_eq X (tgt := 421) dL_step_406 (by decide) (q := 409) rfl (by omega) (by omega) (fun c_406 => ?_) (fun c_406 => ?_)
          · skip
            exact j_widen (by omega) (by omega) (mt_v_24 (by omega))
          · skip
            refine j_aload_n X dL_step_409 (q := 410) rfl 2 rfl ?_
            refine j_aload_n X dL_step_410 (q := 411) rfl 3 rfl ?_
            refine j_iload X dL_step_411 (q := 413) rfl 0 rfl ?_
            refine j_tld X ho (by omega) dL_step_413 (q := 414) rfl ?_
            rw [(hA.2 r_19 br_19.1 br_19.2).1]
            have hz3 : 0 ≤ S 14 r_19 ∧ S 14 r_19 < n := by omega
            have hbf := fof_r (ref := S 14) (inF := inF S) (n := n) (fun i a b => (hI.ins a b).2.2.2.2.1) 12 (S 14 r_19) (by omega) hz3.2 (by omega)
            refine j_callV X (As := [.int (iI (S 14 r_19))]) (st := []) hC.cal rfl (c_X3_distrusted hlt hC hI (S 14 r_19) (by omega)) sv_L_33 (by decide) rfl (by first | decide | exact Nat.le_of_ble_eq_true rfl | simp [cat_rf, cat_i, cat_l, cat_r]) dL_step_414 (by first | decide | exact ⟨by show _ ≤ (20 : Nat); omega, by show _ ≤ (130 : Nat); omega⟩) (fun _ _ hE => by exfalso; omega) ?_
            rintro v9 w9 ⟨-, rfl, rfl⟩
            refine j_st (st := [.int (iI (fof (S 14) (inF S) 12 (S 14 r_19)))]) ?_
            refine j_iconst X (a := -1) dL_step_417 (q := 418) rfl ?_
            refine j_icmp_ne X (tgt := 465) dL_step_418 (by decide) (q := 421) rfl (by omega) (by omega) (fun c_418 => ?_) (fun c_418 => ?_)
            · skip
              refine j_iconst X (a := 1) dL_step_465 (q := 466) rfl ?_
              refine j_goto X (tgt := 470) dL_step_466 (by decide) ?_
              exact j_zret X rfl (Or.inr rfl) dL_step_470 (⟨rfl, n, nc, nm, S, T, ad, g, hS.le (by omega) (by omega), hC, ho, hA, rfl⟩) (by first | decide | omega) (by first | decide | omega)
            · skip
              exact j_widen (by omega) (by omega) (mt_v_24 (by omega))
      · skip
        refine j_aload_n X dL_step_330 (q := 331) rfl 2 rfl ?_
        refine j_callV X (As := []) (st := []) hC.cal rfl (c_X3_today hlt hC hI ) sv_L_43 (by decide) rfl (by first | decide | exact Nat.le_of_ble_eq_true rfl | simp [cat_rf, cat_i, cat_l, cat_r]) dL_step_331 (by first | decide | exact ⟨by show _ ≤ (20 : Nat); omega, by show _ ≤ (130 : Nat); omega⟩) (fun _ _ hE => hE.elim) ?_
        rintro v9 w9 ⟨rfl, rfl⟩
        refine j_st (st := [.int (iI (S 7 0))]) ?_
        refine j_istore X (i := 7) dL_step_334 (by decide) (q := 336) rfl (lv' := [(7, .int (iI (S 7 0))), (6, .int (iI (r_19))), (5, .int (iI (n))), (0, .ref (ad 0 0)), (1, .ref (o)), (2, .int (iI (wh))), (3, .int (iI (aa))), (4, .int (iI (bb)))]) (by first | rfl | simp [cat_rf, cat_i, cat_l, cat_r]) ?_
        refine j_aload_n X dL_step_336 (q := 337) rfl 3 rfl ?_
        refine j_iconst X (a := 1) dL_step_337 (q := 338) rfl ?_
        refine j_iload X dL_step_338 (q := 340) rfl 7 rfl ?_
        have jn_v_27 : ∀ v_27 : Int, (bb.tmod 4 = 0 ∧ v_27 = 999) ∨ (bb.tmod 4 ≠ 0 ∧ v_27 = 12) → J p l e (Rm 7 20 130) s m args below meth c (vx_MQ below (Qn D base (fun v w' => v = some (.int (iI 1)) ∧ LV base ca (ad 0 0) o (cn + 1) w')) (Xn D base (fun _ _ => False)) args s 20 130 (fun q => base ≤ q)) D base 9 0 0 355 [(7, .int (iI (S 7 0))), (6, .int (iI (r_19))), (5, .int (iI (n))), (0, .ref (ad 0 0)), (1, .ref (o)), (2, .int (iI (wh))), (3, .int (iI (aa))), (4, .int (iI (bb)))] [.int (iI (v_27)), .int (iI (bb)), .int (iI (1)), .ref (ad 0 0)] w := by
          intro v_27 hv_27
          refine j_irem X (by omega) (by omega) dL_step_355 (q := 356) rfl ?_
          obtain ⟨r_28, er_28, br_28⟩ : ∃ r : Int, r = Int.tmod bb v_27 ∧ (0 ≤ r ∧ r < v_27) := ⟨_, rfl, tm_b (by omega) (by omega)⟩
          rw [← er_28]
          refine j_iadd X dL_step_356 (q := 357) rfl ?_
          have hS2 := hS.pass hcn (d := (1 + r_28)) (by omega)
          have hI2 := hS2.1
          refine j_callV X (As := [.int (iI (1 + r_28))]) (st := []) hC.cal rfl (c_X3_pass hlt hC hI (1 + r_28) (by omega)) sv_L_46 (by decide) rfl (by first | decide | exact Nat.le_of_ble_eq_true rfl) dL_step_357 (by first | decide | exact ⟨by show _ ≤ (20 : Nat); omega, by show _ ≤ (130 : Nat); omega⟩) (fun _ _ hE => by exfalso; omega) ?_
          rintro v9 w2 ⟨-, rfl, hC2, hF2⟩
          have hA2 : TA n (up S 7 0 (S 7 0 + (1 + r_28))) g := ⟨hA.1, fun k a b => by rw [up_f (by decide), up_f (by decide), up_f (by decide)]; exact hA.2 k a b⟩
          have ho2 := hF2 _ _ ho (by show (1 : Nat) ≠ 0; decide)
          refine j_st (st := [.int (iI (S 7 0 + (1 + r_28)))]) ?_
          refine j_iload X dL_step_360 (q := 362) rfl 0 rfl ?_
          refine j_iconst X (a := 1) dL_step_362 (q := 363) rfl ?_
          refine j_iadd X dL_step_363 (q := 364) rfl ?_
          refine j_iload X dL_step_364 (q := 366) rfl 7 rfl ?_
          have jn_v_29 : ∀ v_29 : Int, (bb.tmod 4 = 0 ∧ v_29 = 999) ∨ (bb.tmod 4 ≠ 0 ∧ v_29 = 12) → J p l e (Rm 7 20 130) s m args below meth c (vx_MQ below (Qn D base (fun v w' => v = some (.int (iI 1)) ∧ LV base ca (ad 0 0) o (cn + 1) w')) (Xn D base (fun _ _ => False)) args s 20 130 (fun q => base ≤ q)) D base 9 3 24 381 [(7, .int (iI (S 7 0))), (6, .int (iI (r_19))), (5, .int (iI (n))), (0, .ref (ad 0 0)), (1, .ref (o)), (2, .int (iI (wh))), (3, .int (iI (aa))), (4, .int (iI (bb)))] [.int (iI (v_29)), .int (iI (bb)), .int (iI ((S 7 0) + 1)), .int (iI (S 7 0 + (1 + r_28)))] w2 := by
            intro v_29 hv_29
            have e9 : v_29 = v_27 := by omega
            rw [e9]
            refine j_irem X (by omega) (by omega) dL_step_381 (q := 382) rfl ?_
            obtain ⟨r_30, er_30, br_30⟩ : ∃ r : Int, r = Int.tmod bb v_27 ∧ (0 ≤ r ∧ r < v_27) := ⟨_, rfl, tm_b (by omega) (by omega)⟩
            rw [← er_30]
            refine j_iadd X dL_step_382 (q := 383) rfl ?_
            refine j_icmp_ne X (tgt := 390) dL_step_383 (by decide) (q := 386) rfl (by omega) (by omega) (fun c_383 => ?_) (fun c_383 => ?_)
            · skip
              exfalso; omega
            · skip
              refine j_iconst X (a := 1) dL_step_386 (q := 387) rfl ?_
              refine j_goto X (tgt := 391) dL_step_387 (by decide) ?_
              exact j_zret X rfl (Or.inr rfl) dL_step_391 (⟨rfl, n, nc, nm, _, _, ad, g, hS2, hC2, ho2, hA2, rfl⟩) (by first | decide | omega) (by first | decide | omega)
          refine j_iload X dL_step_366 (q := 368) rfl 7 rfl ?_
          refine j_iconst X (a := 4) dL_step_368 (q := 369) rfl ?_
          refine j_irem X (by omega) (by omega) dL_step_369 (q := 370) rfl ?_
          obtain ⟨r_31, er_31, br_31⟩ : ∃ r : Int, r = Int.tmod bb 4 ∧ (0 ≤ r ∧ r < 4) := ⟨_, rfl, tm_b (by omega) (by omega)⟩
          rw [← er_31]
          refine j_if_ne X (tgt := 379) dL_step_370 (by decide) (q := 373) rfl (by omega) (fun c_370 => ?_) (fun c_370 => ?_)
          · skip
            refine j_bipush X (a := 12) (by decide +kernel) dL_step_379 (q := 381) rfl ?_
            exact j_widen (by omega) (by omega) (jn_v_29 _ (by omega))
          · skip
            refine j_sipush X (a := 999) (by decide +kernel) dL_step_373 (q := 376) rfl ?_
            refine j_goto X (tgt := 381) dL_step_376 (by decide) ?_
            exact j_widen (by omega) (by omega) (jn_v_29 _ (by omega))
        refine j_iload X dL_step_340 (q := 342) rfl 7 rfl ?_
        refine j_iconst X (a := 4) dL_step_342 (q := 343) rfl ?_
        refine j_irem X (by omega) (by omega) dL_step_343 (q := 344) rfl ?_
        obtain ⟨r_32, er_32, br_32⟩ : ∃ r : Int, r = Int.tmod bb 4 ∧ (0 ≤ r ∧ r < 4) := ⟨_, rfl, tm_b (by omega) (by omega)⟩
        rw [← er_32]
        refine j_if_ne X (tgt := 353) dL_step_344 (by decide) (q := 347) rfl (by omega) (fun c_344 => ?_) (fun c_344 => ?_)
        · skip
          refine j_bipush X (a := 12) (by decide +kernel) dL_step_353 (q := 355) rfl ?_
          exact j_widen (by omega) (by omega) (jn_v_27 _ (by omega))
        · skip
          refine j_sipush X (a := 999) (by decide +kernel) dL_step_347 (q := 350) rfl ?_
          refine j_goto X (tgt := 355) dL_step_350 (by decide) ?_
          exact j_widen (by omega) (by omega) (jn_v_27 _ (by omega))
    · skip
      have jn_v_33 : ∀ v_33 : Int, v_33 = -1 ∨ (0 ≤ v_33 ∧ v_33 < n) → J p l e (Rm 7 20 130) s m args below meth c (vx_MQ below (Qn D base (fun v w' => v = some (.int (iI 1)) ∧ LV base ca (ad 0 0) o (cn + 1) w')) (Xn D base (fun _ _ => False)) args s 20 130 (fun q => base ≤ q)) D base 9 0 0 247 [(6, .int (iI (r_19))), (5, .int (iI (n))), (0, .ref (ad 0 0)), (1, .ref (o)), (2, .int (iI (wh))), (3, .int (iI (aa))), (4, .int (iI (bb)))] [.int (iI (v_33))] w := by
        intro v_33 hv_33
        refine j_istore X (i := 7) dL_step_247 (by decide) (q := 249) rfl (lv' := [(7, .int (iI (v_33))), (6, .int (iI (r_19))), (5, .int (iI (n))), (0, .ref (ad 0 0)), (1, .ref (o)), (2, .int (iI (wh))), (3, .int (iI (aa))), (4, .int (iI (bb)))]) (by first | rfl | simp [cat_rf, cat_i, cat_l, cat_r]) ?_
        refine j_iload X dL_step_249 (q := 251) rfl 0 rfl ?_
        refine j_istore X (i := 8) dL_step_251 (by decide) (q := 253) rfl (lv' := [(8, .int (iI (v_33))), (7, .int (iI (v_33))), (6, .int (iI (r_19))), (5, .int (iI (n))), (0, .ref (ad 0 0)), (1, .ref (o)), (2, .int (iI (wh))), (3, .int (iI (aa))), (4, .int (iI (bb)))]) (by first | rfl | simp [cat_rf, cat_i, cat_l, cat_r]) ?_
        have aft : inCh (S 14) 12 v_33 r_19 = 0 → J p l e (Rm 7 20 130) s m args below meth c (vx_MQ below (Qn D base (fun v w' => v = some (.int (iI 1)) ∧ LV base ca (ad 0 0) o (cn + 1) w')) (Xn D base (fun _ _ => False)) args s 20 130 (fun q => base ≤ q)) D base 9 0 0 291 [(7, .int (iI (v_33))), (6, .int (iI (r_19))), (5, .int (iI (n))), (0, .ref (ad 0 0)), (1, .ref (o)), (2, .int (iI (wh))), (3, .int (iI (aa))), (4, .int (iI (bb)))] [] w := by
          intro hch
          refine j_aload_n X dL_step_291 (q := 292) rfl 4 rfl ?_
          refine j_iload X dL_step_292 (q := 294) rfl 1 rfl ?_
          refine j_tld X ho (by omega) dL_step_294 (q := 295) rfl ?_
          rw [(hA.2 r_19 br_19.1 br_19.2).1]
          refine j_istore X (i := 8) dL_step_295 (by decide) (q := 297) rfl (lv' := [(8, .int (iI (S 14 r_19))), (7, .int (iI (v_33))), (6, .int (iI (r_19))), (5, .int (iI (n))), (0, .ref (ad 0 0)), (1, .ref (o)), (2, .int (iI (wh))), (3, .int (iI (aa))), (4, .int (iI (bb)))]) (by first | rfl | simp [cat_rf, cat_i, cat_l, cat_r]) ?_
          refine j_aload_n X dL_step_297 (q := 298) rfl 5 rfl ?_
          refine j_iload X dL_step_298 (q := 300) rfl 2 rfl ?_
          refine j_iload X dL_step_300 (q := 302) rfl 1 rfl ?_
          refine j_tst X ho (by omega) hbo dL_step_302 (q := 303) rfl (fun w_34 hFw_34 how_34 => ?_)
          have hCw_34 := hC.fr (c := 1) (by decide) hFw_34
          refine j_aload_n X dL_step_303 (q := 304) rfl 4 rfl ?_
          refine j_iload X dL_step_304 (q := 306) rfl 2 rfl ?_
          refine j_iload X dL_step_306 (q := 308) rfl 1 rfl ?_
          have hS2 := hS.refer hcn br_19 (r := v_33) (by omega) hch
          have hI2 := hS2.1
          have hA2 := hA.refer (r := v_33) (by omega) br_19
          refine j_callV X (As := [.int (iI (r_19)), .int (iI (v_33))]) (st := []) hCw_34.cal rfl (c_X3_refer hlt hCw_34 hI r_19 v_33 (by omega) (by omega)) sv_L_39 (by decide) rfl (by first | decide | exact Nat.le_of_ble_eq_true rfl) dL_step_308 (by first | decide | exact ⟨by show _ ≤ (20 : Nat); omega, by show _ ≤ (130 : Nat); omega⟩) (fun _ _ hE => by exfalso; omega) ?_
          rintro v9 w2 ⟨-, rfl, hC2, hF2⟩
          have ho2 := hF2 _ _ how_34 (by show (1 : Nat) ≠ 0; decide)
          refine j_st (st := [.int (iI (S 14 r_19))]) ?_
          refine j_iload X dL_step_311 (q := 313) rfl 0 rfl ?_
          refine j_icmp_ne X (tgt := 320) dL_step_313 (by decide) (q := 316) rfl (by omega) (by omega) (fun c_313 => ?_) (fun c_313 => ?_)
          · skip
            exact absurd rfl c_313
          · skip
            refine j_iconst X (a := 1) dL_step_316 (q := 317) rfl ?_
            refine j_goto X (tgt := 321) dL_step_317 (by decide) ?_
            exact j_zret X rfl (Or.inr rfl) dL_step_321 (⟨rfl, n, nc, nm, _, _, ad, _, hS2, hC2, ho2, hA2, rfl⟩) (by first | decide | omega) (by first | decide | omega)
        have loop : ∀ (j : Nat) (at9 : Int), (-1 ≤ at9 ∧ at9 < n) → ends (S 14) j at9 → inCh (S 14) 12 v_33 r_19 = inCh (S 14) j at9 r_19 → J p l e (Rm 7 20 130) s m args below meth c (vx_MQ below (Qn D base (fun v w' => v = some (.int (iI 1)) ∧ LV base ca (ad 0 0) o (cn + 1) w')) (Xn D base (fun _ _ => False)) args s 20 130 (fun q => base ≤ q)) D base 9 0 0 253 [(8, .int (iI (at9))), (7, .int (iI (v_33))), (6, .int (iI (r_19))), (5, .int (iI (n))), (0, .ref (ad 0 0)), (1, .ref (o)), (2, .int (iI (wh))), (3, .int (iI (aa))), (4, .int (iI (bb)))] [] w := by
          intro j
          induction j with
          | zero =>
            intro at9 hat hends hci
            refine j_iload X dL_step_253 (q := 255) rfl 0 rfl ?_
            refine j_iconst X (a := -1) dL_step_255 (q := 256) rfl ?_
            refine j_icmp_eq X (tgt := 291) dL_step_256 (by decide) (q := 259) rfl (by omega) (by omega) (fun c_256 => ?_) (fun c_256 => ?_)
            · skip
              rw [inCh_n (u := at9) (by omega)] at hci
              exact j_lv (aft hci) [1, 2, 3, 4, 5, 6, 7, 8] rfl
            · skip
              exact absurd (ends_0 hends) (by omega)
          | succ j ih =>
            intro at9 hat hends hci
            refine j_iload X dL_step_253 (q := 255) rfl 0 rfl ?_
            refine j_iconst X (a := -1) dL_step_255 (q := 256) rfl ?_
            refine j_icmp_eq X (tgt := 291) dL_step_256 (by decide) (q := 259) rfl (by omega) (by omega) (fun c_256 => ?_) (fun c_256 => ?_)
            · skip
              rw [inCh_n (u := at9) (by omega)] at hci
              exact j_lv (aft hci) [1, 2, 3, 4, 5, 6, 7, 8] rfl
            · skip
              have hz9 : 0 ≤ at9 ∧ at9 < n := by omega
              have hrr := (hI.ins hz9.1 hz9.2).2.2.2.2.1
              refine j_iload X dL_step_259 (q := 261) rfl 0 rfl ?_
              refine j_iload X dL_step_261 (q := 263) rfl 2 rfl ?_
              refine j_icmp_ne X (tgt := 282) dL_step_263 (by decide) (q := 266) rfl (by omega) (by omega) (fun c_263 => ?_) (fun c_263 => ?_)
              · skip
                refine j_aload_n X dL_step_282 (q := 283) rfl 5 rfl ?_
                refine j_iload X dL_step_283 (q := 285) rfl 0 rfl ?_
                refine j_tld X ho (by omega) dL_step_285 (q := 286) rfl ?_
                rw [(hA.2 at9 hz9.1 hz9.2).1]
                refine j_istore X (i := 8) dL_step_286 (by decide) (q := 288) rfl (lv' := [(8, .int (iI (S 14 at9))), (7, .int (iI (v_33))), (6, .int (iI (r_19))), (5, .int (iI (n))), (0, .ref (ad 0 0)), (1, .ref (o)), (2, .int (iI (wh))), (3, .int (iI (aa))), (4, .int (iI (bb)))]) (by first | rfl | simp [cat_rf, cat_i, cat_l, cat_r]) ?_
                refine j_goto X (tgt := 253) dL_step_288 (by decide) ?_
                exact j_lv (ih (S 14 at9) hrr (ends_st hends hz9.1) (hci.trans (inCh_s hz9.1 c_263))) [0, 1, 2, 3, 4, 5, 6, 7, 8] rfl
              · skip
                refine j_aload_n X dL_step_266 (q := 267) rfl 4 rfl ?_
                refine j_iload X dL_step_267 (q := 269) rfl 2 rfl ?_
                refine j_callV X (As := [.int (iI (r_19))]) (st := []) hC.cal rfl (c_X3_chain hlt hC hI r_19 (by omega)) sv_L_36 (by decide) rfl (by first | decide | exact Nat.le_of_ble_eq_true rfl | simp [cat_rf, cat_i, cat_l, cat_r]) dL_step_269 (by first | decide | exact ⟨by show _ ≤ (20 : Nat); omega, by show _ ≤ (130 : Nat); omega⟩) (fun _ _ hE => by exfalso; omega) ?_
                rintro v9 w9 ⟨-, rfl, rfl⟩
                refine j_st (st := [.int (iI (len (S 14) 12 r_19))]) ?_
                have hl1 : 1 ≤ len (S 14) 12 r_19 := len_1 (k := 11) br_19.1
                have hlb := len_b (S 14) 12 r_19
                refine j_iconst X (a := 1) dL_step_272 (q := 273) rfl ?_
                refine j_icmp_lt X (tgt := 280) dL_step_273 (by decide) (q := 276) rfl (by omega) (by omega) (fun c_273 => ?_) (fun c_273 => ?_)
                · skip
                  exfalso; omega
                · skip
                  refine j_iconst X (a := 1) dL_step_276 (q := 277) rfl ?_
                  refine j_goto X (tgt := 281) dL_step_277 (by decide) ?_
                  exact j_zret X rfl (Or.inr rfl) dL_step_281 (⟨rfl, n, nc, nm, S, T, ad, g, hS.le (by omega) (by omega), hC, ho, hA, rfl⟩) (by first | decide | omega) (by first | decide | omega)
        exact j_lv (loop 12 v_33 (by omega) (hI.ends (by omega) (by omega)) rfl) [0, 1, 2, 3, 4, 5, 6, 7, 8] rfl
      refine j_iload X dL_step_231 (q := 233) rfl 6 rfl ?_
      refine j_iconst X (a := 5) dL_step_233 (q := 234) rfl ?_
      refine j_irem X (by omega) (by omega) dL_step_234 (q := 235) rfl ?_
      obtain ⟨r_35, er_35, br_35⟩ : ∃ r : Int, r = Int.tmod bb 5 ∧ (0 ≤ r ∧ r < 5) := ⟨_, rfl, tm_b (by omega) (by omega)⟩
      rw [← er_35]
      refine j_if_ne X (tgt := 242) dL_step_235 (by decide) (q := 238) rfl (by omega) (fun c_235 => ?_) (fun c_235 => ?_)
      · skip
        refine j_iload X dL_step_242 (q := 244) rfl 6 rfl ?_
        refine j_iload X dL_step_244 (q := 246) rfl 1 rfl ?_
        refine j_irem X (by omega) (by omega) dL_step_246 (q := 247) rfl ?_
        obtain ⟨r_36, er_36, br_36⟩ : ∃ r : Int, r = Int.tmod bb n ∧ (0 ≤ r ∧ r < n) := ⟨_, rfl, tm_b (by omega) (by omega)⟩
        rw [← er_36]
        exact j_widen (by omega) (by omega) (jn_v_33 _ (by omega))
      · skip
        refine j_iconst X (a := -1) dL_step_238 (q := 239) rfl ?_
        refine j_goto X (tgt := 247) dL_step_239 (by decide) ?_
        exact j_widen (by omega) (by omega) (jn_v_33 _ (by omega))
  refine j_if_eq X (tgt := 25) dL_step_8 (by decide) (q := 11) rfl (by omega) (fun c_8 => ?_) (fun c_8 => ?_)
  · skip
    exact j_widen (by omega) (by omega) (mt_v_1 (by omega))
  · skip
    refine j_iload_n X dL_step_11 (q := 12) rfl 3 rfl ?_
    refine j_bipush X (a := 11) (by decide +kernel) dL_step_12 (q := 14) rfl ?_
    refine j_irem X (by omega) (by omega) dL_step_14 (q := 15) rfl ?_
    obtain ⟨r_37, er_37, br_37⟩ : ∃ r : Int, r = Int.tmod wh 11 ∧ (0 ≤ r ∧ r < 11) := ⟨_, rfl, tm_b (by omega) (by omega)⟩
    rw [← er_37]
    refine j_if_ne X (tgt := 217) dL_step_15 (by decide) (q := 18) rfl (by omega) (fun c_15 => ?_) (fun c_15 => ?_)
    · skip
      exact j_widen (by omega) (by omega) (mt_v_18 (by omega))
    · skip
      refine j_iload X dL_step_18 (q := 20) rfl 0 rfl ?_
      refine j_bipush X (a := 12) (by decide +kernel) dL_step_20 (q := 22) rfl ?_
      refine j_icmp_ge X (tgt := 217) dL_step_22 (by decide) (q := 25) rfl (by omega) (by omega) (fun c_22 => ?_) (fun c_22 => ?_)
      · skip
        exact j_widen (by omega) (by omega) (mt_v_18 (by omega))
      · skip
        exact j_widen (by omega) (by omega) (mt_v_1 (by omega))
