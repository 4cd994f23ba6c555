set_option maxRecDepth 100000 in
set_option maxHeartbeats 4000000 in
theorem c_X4_laysPoint {l : Launch} (hlt : l.stackTraces = false) {D : va_G} {ca : Nat → ClassId} {base : Nat} {am : Nat → Nat} {th : Int} {T : St} {w : Wd} (hM : MW base ca am th T w) (z d e9 : Int) (hz : 0 ≤ z ∧ z < 12) (h15 : 0 ≤ T 15 z ∧ T 15 z ≤ 8) : CT l D ca base yX4_laysPoint cX4_laysPoint 6 none 0 0 0 [.ref (am 0), .int (iI (z)), .int (iI (d)), .int (iI (e9))] w (fun v w' => v = none ∧ MW base ca am th (lpS T z d e9) w' ∧ Fr 1 w w') (fun _ _ => False) := by
  refine CT.mk hlt (by decide +kernel) (by first | exact Nat.le_of_ble_eq_true rfl | simp [lg_sl, cat_rf, cat_i, cat_l, cat_r]) ?_
  intro p e s m args below meth c X htab
  rw [show lv_args 0 [.ref (am 0), .int (iI (z)), .int (iI (d)), .int (iI (e9))] = [(0, .ref (am 0)), (1, .int (iI (z))), (2, .int (iI (d))), (3, .int (iI (e9)))] from by first | rfl | simp [lv_args, cat_rf, cat_i, cat_l, cat_r]]
  refine j_bipush X (a := 8) (by decide +kernel) dX4_laysPoint_0 (q := 2) rfl ?_
  refine j_iload_n X dX4_laysPoint_2 (q := 3) rfl 1 rfl ?_
  refine j_imul X dX4_laysPoint_3 (q := 4) rfl ?_
  refine j_istore X (i := 4) dX4_laysPoint_4 (by decide) (q := 6) rfl (lv' := [(4, .int (iI (8 * z))), (0, .ref (am 0)), (1, .int (iI (z))), (2, .int (iI (d))), (3, .int (iI (e9)))]) (by first | rfl | simp [cat_rf, cat_i, cat_l, cat_r]) ?_
  refine j_aload_n X dX4_laysPoint_6 (q := 7) rfl 1 rfl ?_
  refine j_get X (v := .ref (am 15)) fl_X4_44 hM.obj rfl dX4_laysPoint_7 (q := 10) rfl ?_
  refine j_iload_n X dX4_laysPoint_10 (q := 11) rfl 2 rfl ?_
  refine jm_iald X hM 15 (by decide) rfl (by omega) (by show _ < (12 : Int); omega) dX4_laysPoint_11 (q := 12) rfl ?_
  refine j_bipush X (a := 8) (by decide +kernel) dX4_laysPoint_12 (q := 14) rfl ?_
  refine j_icmp_ne X (tgt := 81) dX4_laysPoint_14 (by decide) (q := 17) rfl (by omega) (by omega) (fun c_14 => ?_) (fun c_14 => ?_)
  · skip
    have hF4 : Fr 1 w w := Fr.rf
    have hM4 : MW base ca am th (lpA T z) w := by rw [lpA, if_neg c_14]; exact hM
    have h15b : 0 ≤ lpA T z 15 z ∧ lpA T z 15 z ≤ 7 := by rw [lpA, if_neg c_14]; omega
    obtain ⟨T1, hT1⟩ : ∃ T1, T1 = lpA T z := ⟨_, rfl⟩
    rw [← hT1] at hM4 h15b
    refine j_aload_n X dX4_laysPoint_81 (q := 82) rfl 1 rfl ?_
    refine j_get X (v := .ref (am 16)) fl_X4_47 hM4.obj rfl dX4_laysPoint_82 (q := 85) rfl ?_
    refine j_iload X dX4_laysPoint_85 (q := 87) rfl 0 rfl ?_
    refine j_aload_n X dX4_laysPoint_87 (q := 88) rfl 1 rfl ?_
    refine j_get X (v := .ref (am 15)) fl_X4_44 hM4.obj rfl dX4_laysPoint_88 (q := 91) rfl ?_
    refine j_iload_n X dX4_laysPoint_91 (q := 92) rfl 2 rfl ?_
    refine jm_iald X hM4 15 (by decide) rfl (by omega) (by show _ < (12 : Int); omega) dX4_laysPoint_92 (q := 93) rfl ?_
    refine j_iadd X dX4_laysPoint_93 (q := 94) rfl ?_
    refine j_iload_n X dX4_laysPoint_94 (q := 95) rfl 3 rfl ?_
    refine jm_iast X hM4 16 (by decide) rfl (by omega) (by show _ < (96 : Int); omega) dX4_laysPoint_95 (q := 96) rfl (fun w_1 hMw_1 hFw_1 => ?_)
    refine j_aload_n X dX4_laysPoint_96 (q := 97) rfl 1 rfl ?_
    refine j_get X (v := .ref (am 17)) fl_X4_50 hMw_1.obj rfl dX4_laysPoint_97 (q := 100) rfl ?_
    refine j_iload X dX4_laysPoint_100 (q := 102) rfl 0 rfl ?_
    refine j_aload_n X dX4_laysPoint_102 (q := 103) rfl 1 rfl ?_
    refine j_get X (v := .ref (am 15)) fl_X4_44 hMw_1.obj rfl dX4_laysPoint_103 (q := 106) rfl ?_
    refine j_iload_n X dX4_laysPoint_106 (q := 107) rfl 2 rfl ?_
    refine jm_iald X hMw_1 15 (by decide) rfl (by omega) (by show _ < (12 : Int); omega) dX4_laysPoint_107 (q := 108) rfl ?_
    rw [up_f (by decide)]
    refine j_iadd X dX4_laysPoint_108 (q := 109) rfl ?_
    refine j_iload_n X dX4_laysPoint_109 (q := 110) rfl 4 rfl ?_
    refine jm_iast X hMw_1 17 (by decide) rfl (by omega) (by show _ < (96 : Int); omega) dX4_laysPoint_110 (q := 111) rfl (fun w_2 hMw_2 hFw_2 => ?_)
    refine j_aload_n X dX4_laysPoint_111 (q := 112) rfl 1 rfl ?_
    refine j_get X (v := .ref (am 15)) fl_X4_44 hMw_2.obj rfl dX4_laysPoint_112 (q := 115) rfl ?_
    refine j_iload_n X dX4_laysPoint_115 (q := 116) rfl 2 rfl ?_
    refine j_dup2 X rfl rfl dX4_laysPoint_116 (q := 117) rfl ?_
    refine jm_iald X hMw_2 15 (by decide) rfl (by omega) (by show _ < (12 : Int); omega) dX4_laysPoint_117 (q := 118) rfl ?_
    rw [up_f (by decide), up_f (by decide)]
    refine j_iconst X (a := 1) dX4_laysPoint_118 (q := 119) rfl ?_
    refine j_iadd X dX4_laysPoint_119 (q := 120) rfl ?_
    refine jm_iast X hMw_2 15 (by decide) rfl (by omega) (by show _ < (12 : Int); omega) dX4_laysPoint_120 (q := 121) rfl (fun w_3 hMw_3 hFw_3 => ?_)
    exact j_vret X rfl dX4_laysPoint_121 (⟨rfl, by rw [lpS, ← hT1]; exact hMw_3, (((hF4).tr hFw_1).tr hFw_2).tr hFw_3⟩) (by decide) (by decide)
  · skip
    refine j_iload X dX4_laysPoint_17 (q := 19) rfl 0 rfl ?_
    refine j_istore X (i := 5) dX4_laysPoint_19 (by decide) (q := 21) rfl (lv' := [(5, .int (iI (8 * z))), (4, .int (iI (8 * z))), (0, .ref (am 0)), (1, .int (iI (z))), (2, .int (iI (d))), (3, .int (iI (e9)))]) (by first | rfl | simp [cat_rf, cat_i, cat_l, cat_r]) ?_
    have loop : ∀ (kk : Nat) (k : Int) (w1 : Wd), (8 * z ≤ k ∧ k ≤ 8 * z + 7) → (8 * z + 7 - k).toNat = kk → MW base ca am th (shC T (8 * z) k) w1 → Fr 1 w w1 → J p l e (Rm 0 0 0) s m args below meth c (vx_MQ below (Qn D base (fun v w' => v = none ∧ MW base ca am th (lpS T z d e9) w' ∧ Fr 1 w w')) (Xn D base (fun _ _ => False)) args s 0 0 (fun q => base ≤ q)) D base 6 0 0 21 [(0, .ref (am 0)), (1, .int (iI (z))), (2, .int (iI (d))), (3, .int (iI (e9))), (4, .int (iI (8 * z))), (5, .int (iI (k)))] [] w1 := by
      intro kk
      induction kk using Nat.strongRecOn with
      | ind kk ih =>
        intro k w1 hk hkk hM1 hF1
        refine j_iload X dX4_laysPoint_21 (q := 23) rfl 5 rfl ?_
        refine j_iload X dX4_laysPoint_23 (q := 25) rfl 4 rfl ?_
        refine j_bipush X (a := 8) (by decide +kernel) dX4_laysPoint_25 (q := 27) rfl ?_
        refine j_iadd X dX4_laysPoint_27 (q := 28) rfl ?_
        refine j_iconst X (a := 1) dX4_laysPoint_28 (q := 29) rfl ?_
        refine j_isub X dX4_laysPoint_29 (q := 30) rfl ?_
        refine j_icmp_ge X (tgt := 71) dX4_laysPoint_30 (by decide) (q := 33) rfl (by omega) (by omega) (fun c_30 => ?_) (fun c_30 => ?_)
        · skip
          refine j_aload_n X dX4_laysPoint_71 (q := 72) rfl 0 rfl ?_
          refine j_get X (v := .ref (am 15)) fl_X4_44 hM1.obj rfl dX4_laysPoint_72 (q := 75) rfl ?_
          refine j_iload_n X dX4_laysPoint_75 (q := 76) rfl 1 rfl ?_
          refine j_dup2 X rfl rfl dX4_laysPoint_76 (q := 77) rfl ?_
          refine jm_iald X hM1 15 (by decide) rfl (by omega) (by show _ < (12 : Int); omega) dX4_laysPoint_77 (q := 78) rfl ?_
          rw [shC_o (by decide)]
          refine j_iconst X (a := 1) dX4_laysPoint_78 (q := 79) rfl ?_
          refine j_isub X dX4_laysPoint_79 (q := 80) rfl ?_
          refine jm_iast X hM1 15 (by decide) rfl (by omega) (by show _ < (12 : Int); omega) dX4_laysPoint_80 (q := 81) rfl (fun w_4 hMw_4 hFw_4 => ?_)
          have hF4 := hF1.tr hFw_4
          have hM4 : MW base ca am th (lpA T z) w_4 := by
            rw [lpA, if_pos c_14, show 8 * z + 7 = k by omega]; have q7 : (7 : Int) = T 15 z - 1 := by omega
            rw [q7]; exact hMw_4
          have h15b : 0 ≤ lpA T z 15 z ∧ lpA T z 15 z ≤ 7 := by rw [lpA, if_pos c_14, up_s]; decide
          obtain ⟨T1, hT1⟩ : ∃ T1, T1 = lpA T z := ⟨_, rfl⟩
          rw [← hT1] at hM4 h15b
          refine j_aload_n X dX4_laysPoint_81 (q := 82) rfl 0 rfl ?_
          refine j_get X (v := .ref (am 16)) fl_X4_47 hM4.obj rfl dX4_laysPoint_82 (q := 85) rfl ?_
          refine j_iload X dX4_laysPoint_85 (q := 87) rfl 4 rfl ?_
          refine j_aload_n X dX4_laysPoint_87 (q := 88) rfl 0 rfl ?_
          refine j_get X (v := .ref (am 15)) fl_X4_44 hM4.obj rfl dX4_laysPoint_88 (q := 91) rfl ?_
          refine j_iload_n X dX4_laysPoint_91 (q := 92) rfl 1 rfl ?_
          refine jm_iald X hM4 15 (by decide) rfl (by omega) (by show _ < (12 : Int); omega) dX4_laysPoint_92 (q := 93) rfl ?_
          refine j_iadd X dX4_laysPoint_93 (q := 94) rfl ?_
          refine j_iload_n X dX4_laysPoint_94 (q := 95) rfl 2 rfl ?_
          refine jm_iast X hM4 16 (by decide) rfl (by omega) (by show _ < (96 : Int); omega) dX4_laysPoint_95 (q := 96) rfl (fun w_5 hMw_5 hFw_5 => ?_)
          refine j_aload_n X dX4_laysPoint_96 (q := 97) rfl 0 rfl ?_
          refine j_get X (v := .ref (am 17)) fl_X4_50 hMw_5.obj rfl dX4_laysPoint_97 (q := 100) rfl ?_
          refine j_iload X dX4_laysPoint_100 (q := 102) rfl 4 rfl ?_
          refine j_aload_n X dX4_laysPoint_102 (q := 103) rfl 0 rfl ?_
          refine j_get X (v := .ref (am 15)) fl_X4_44 hMw_5.obj rfl dX4_laysPoint_103 (q := 106) rfl ?_
          refine j_iload_n X dX4_laysPoint_106 (q := 107) rfl 1 rfl ?_
          refine jm_iald X hMw_5 15 (by decide) rfl (by omega) (by show _ < (12 : Int); omega) dX4_laysPoint_107 (q := 108) rfl ?_
          rw [up_f (by decide)]
          refine j_iadd X dX4_laysPoint_108 (q := 109) rfl ?_
          refine j_iload_n X dX4_laysPoint_109 (q := 110) rfl 3 rfl ?_
          refine jm_iast X hMw_5 17 (by decide) rfl (by omega) (by show _ < (96 : Int); omega) dX4_laysPoint_110 (q := 111) rfl (fun w_6 hMw_6 hFw_6 => ?_)
          refine j_aload_n X dX4_laysPoint_111 (q := 112) rfl 0 rfl ?_
          refine j_get X (v := .ref (am 15)) fl_X4_44 hMw_6.obj rfl dX4_laysPoint_112 (q := 115) rfl ?_
          refine j_iload_n X dX4_laysPoint_115 (q := 116) rfl 1 rfl ?_
          refine j_dup2 X rfl rfl dX4_laysPoint_116 (q := 117) rfl ?_
          refine jm_iald X hMw_6 15 (by decide) rfl (by omega) (by show _ < (12 : Int); omega) dX4_laysPoint_117 (q := 118) rfl ?_
          rw [up_f (by decide), up_f (by decide)]
          refine j_iconst X (a := 1) dX4_laysPoint_118 (q := 119) rfl ?_
          refine j_iadd X dX4_laysPoint_119 (q := 120) rfl ?_
          refine jm_iast X hMw_6 15 (by decide) rfl (by omega) (by show _ < (12 : Int); omega) dX4_laysPoint_120 (q := 121) rfl (fun w_7 hMw_7 hFw_7 => ?_)
          exact j_vret X rfl dX4_laysPoint_121 (⟨rfl, by rw [lpS, ← hT1]; exact hMw_7, (((hF4).tr hFw_5).tr hFw_6).tr hFw_7⟩) (by decide) (by decide)
        · skip
          refine j_aload_n X dX4_laysPoint_33 (q := 34) rfl 0 rfl ?_
          refine j_get X (v := .ref (am 16)) fl_X4_47 hM1.obj rfl dX4_laysPoint_34 (q := 37) rfl ?_
          refine j_iload X dX4_laysPoint_37 (q := 39) rfl 5 rfl ?_
          refine j_aload_n X dX4_laysPoint_39 (q := 40) rfl 0 rfl ?_
          refine j_get X (v := .ref (am 16)) fl_X4_47 hM1.obj rfl dX4_laysPoint_40 (q := 43) rfl ?_
          refine j_iload X dX4_laysPoint_43 (q := 45) rfl 5 rfl ?_
          refine j_iconst X (a := 1) dX4_laysPoint_45 (q := 46) rfl ?_
          refine j_iadd X dX4_laysPoint_46 (q := 47) rfl ?_
          refine jm_iald X hM1 16 (by decide) rfl (by omega) (by show _ < (96 : Int); omega) dX4_laysPoint_47 (q := 48) rfl ?_
          rw [shC_at]
          refine jm_iast X hM1 16 (by decide) rfl (by omega) (by show _ < (96 : Int); omega) dX4_laysPoint_48 (q := 49) rfl (fun w_8 hMw_8 hFw_8 => ?_)
          refine j_aload_n X dX4_laysPoint_49 (q := 50) rfl 0 rfl ?_
          refine j_get X (v := .ref (am 17)) fl_X4_50 hMw_8.obj rfl dX4_laysPoint_50 (q := 53) rfl ?_
          refine j_iload X dX4_laysPoint_53 (q := 55) rfl 5 rfl ?_
          refine j_aload_n X dX4_laysPoint_55 (q := 56) rfl 0 rfl ?_
          refine j_get X (v := .ref (am 17)) fl_X4_50 hMw_8.obj rfl dX4_laysPoint_56 (q := 59) rfl ?_
          refine j_iload X dX4_laysPoint_59 (q := 61) rfl 5 rfl ?_
          refine j_iconst X (a := 1) dX4_laysPoint_61 (q := 62) rfl ?_
          refine j_iadd X dX4_laysPoint_62 (q := 63) rfl ?_
          refine jm_iald X hMw_8 17 (by decide) rfl (by omega) (by show _ < (96 : Int); omega) dX4_laysPoint_63 (q := 64) rfl ?_
          rw [up_f (by decide), shC_at]
          refine jm_iast X hMw_8 17 (by decide) rfl (by omega) (by show _ < (96 : Int); omega) dX4_laysPoint_64 (q := 65) rfl (fun w_9 hMw_9 hFw_9 => ?_)
          refine j_iinc X dX4_laysPoint_65 5 rfl (by decide) (q := 68) rfl (lv' := [(5, .int (iI (k + 1))), (0, .ref (am 0)), (1, .int (iI (z))), (2, .int (iI (d))), (3, .int (iI (e9))), (4, .int (iI (8 * z)))]) (by first | rfl | simp [cat_rf, cat_i, cat_l, cat_r]) ?_
          refine j_goto X (tgt := 21) dX4_laysPoint_68 (by decide) ?_
          exact j_lv (ih (8 * z + 7 - (k + 1)).toNat (by omega) (k + 1) w_9 (by omega) rfl (shC_s hk.1 ▸ hMw_9) ((hF1.tr hFw_8).tr hFw_9)) [1, 2, 3, 4, 5, 0] rfl
    exact j_lv (loop _ (8 * z) w (by omega) rfl (by rw [shC_0]; exact hM) Fr.rf) [2, 3, 4, 5, 1, 0] rfl

def kaC (n : Int) (T : St) (z x lf : Int) : Int := if 0 ≤ z ∧ z < n then (if (-99999 ≤ x ∧ x ≤ 99999) ∧ (-99999 ≤ lf ∧ lf ≤ 99999) then (if fof (T 4) (inM T) 12 (T 4 z) = -1 then 0 else 3) else 2) else 1
def km1 (T : St) (b : Nat) (n nm z x : Int) : St := if T 5 z < iabs x then faM T b z n nm else T
def km2 (T : St) (b : Nat) (n nm z x : Int) : St := up (km1 T b n nm z x) 7 z (niv (T 5 z) (iabs x) (T 7 z))
def km3 (T : St) (b : Nat) (n nm z x : Int) : St := if T 10 z < T 1 0 then lpS (km2 T b n nm z x) z (T 1 0 - T 10 z) (x - T 12 z) else km2 T b n nm z x
def km4 (T : St) (b : Nat) (n nm z x : Int) : St := if 0 < T 8 z then km3 T b n nm z x else T
def kmS (T : St) (b : Nat) (n nm z x lf : Int) : St := up (up (up (up (up (up (up (km4 T b n nm z x) 3 0 (T 3 0 + 1)) 8 z (T 3 0 + 1)) 9 z (T 4 z)) 10 z (T 1 0)) 11 z (T 1 0 + km4 T b n nm z x 7 z)) 12 z lf) 13 z 0
def kmR (T : St) (b : Nat) (nm z x : Int) : Int := if 0 < T 8 z ∧ T 5 z < iabs x then cnM T b nm else 0
theorem faM_o {T : St} {b : Nat} {z n nm : Int} {g : Nat} {j : Int} (h : g ≠ 13 ∧ g ≠ 14 ∧ g ≠ 21) : faM T b z n nm g j = T g j := by
  rw [faM, rcC_o h.2.2, suC_o h.1, up_f h.2.1]
theorem km1_o {T : St} {b : Nat} {n nm z x : Int} {g : Nat} {j : Int} (h : g ≠ 13 ∧ g ≠ 14 ∧ g ≠ 21) : km1 T b n nm z x g j = T g j := by
  unfold km1
  split
  · exact faM_o h
  · rfl
theorem lpA_o {T : St} {z : Int} {g : Nat} {j : Int} (h : g ≠ 15 ∧ g ≠ 16 ∧ g ≠ 17) : lpA T z g j = T g j := by
  unfold lpA
  split
  · rw [up_f h.1, shC_o h.2]
  · rfl
theorem lpS_o {T : St} {z d e : Int} {g : Nat} {j : Int} (h : g ≠ 15 ∧ g ≠ 16 ∧ g ≠ 17) : lpS T z d e g j = T g j := by
  rw [lpS, up_f h.1, up_f h.2.2, up_f h.2.1, lpA_o h]
theorem km4_o {T : St} {b : Nat} {n nm z x : Int} {g : Nat} {j : Int} (h : (g ≠ 13 ∧ g ≠ 14 ∧ g ≠ 21) ∧ g ≠ 7 ∧ (g ≠ 15 ∧ g ≠ 16 ∧ g ≠ 17)) : km4 T b n nm z x g j = T g j := by
  unfold km4
  split
  · unfold km3
    split
    · rw [lpS_o h.2.2, km2, up_f h.2.1, km1_o h.1]
    · rw [km2, up_f h.2.1, km1_o h.1]
  · rfl
theorem bits_of (n : Nat) (P : Int → Prop) : n ≤ 12 → ∃ b : Nat, b < 2 ^ n ∧ ∀ u : Int, 0 ≤ u → u < n → (hs b u = 1 ↔ P u) := by
  induction n with
  | zero => exact fun _ => ⟨0, by decide, fun u a b => by omega⟩
  | succ k ih =>
    intro hk
    obtain ⟨b, hb, h⟩ := ih (by omega)
    by_cases hp : P k
    · refine ⟨b ||| 2 ^ ((k : Nat) : Int).toNat, Nat.or_lt_two_pow (Nat.lt_trans hb (Nat.pow_lt_pow_right (by decide) (by omega))) (Nat.pow_lt_pow_right (by decide) (by omega)), fun u a c => ?_⟩
      rw [hs_or (by omega) a]
      by_cases hu : u = k
      · subst hu; exact ⟨fun _ => hp, fun _ => Or.inr rfl⟩
      · rw [h u a (by omega)]
        exact ⟨fun q => q.elim id (fun q => absurd q hu), Or.inl⟩
    · refine ⟨b, Nat.lt_trans hb (Nat.pow_lt_pow_right (by decide) (by omega)), fun u a c => ?_⟩
      by_cases hu : u = k
      · subst hu
        refine ⟨fun q => ?_, fun q => absurd q hp⟩
        rw [hs_1, Int.toNat_natCast, Nat.testBit_lt_two_pow hb] at q
        cases q
      · exact h u a (by omega)
theorem rc_any {n nm : Int} {T : St} (hI : MI n nm T) (z : Int) : ∃ b : Nat, b < 4096 ∧ ((0 ≤ z ∧ z < n) → 0 < T 8 z → ∀ u, 0 ≤ u → u < n → (hs b u = 1 ↔ ∃ f, rcF T z f u = 1)) := by
  obtain ⟨hn, -⟩ := hI.top
  obtain ⟨b, hb, h⟩ := bits_of 12 (fun u => ∃ f, rcF T z f u = 1) (by decide)
  exact ⟨b, hb, fun _ _ u a c => h u a (by omega)⟩
theorem rc_set {n nm : Int} {T : St} (hI : MI n nm T) {z : Int} (_hz : 0 ≤ z ∧ z < n) : ∃ b : Nat, b < 4096 ∧ ∀ u, 0 ≤ u → u < n → (hs b u = 1 ↔ ∃ f, rcF T z f u = 1) := by
  obtain ⟨hn, -⟩ := hI.top
  obtain ⟨b, hb, h⟩ := bits_of 12 (fun u => ∃ f, rcF T z f u = 1) (by decide)
  exact ⟨b, hb, fun u a c => h u a (by omega)⟩
set_option maxRecDepth 100000 in
set_option maxHeartbeats 4000000 in
theorem c_X4_calibrate {l : Launch} (hlt : l.stackTraces = false) {D : va_G} {ca : Nat → ClassId} {base : Nat} {am : Nat → Nat} {th : Int} {n nm : Int} {T : St} {w : Wd} (hM : MW base ca am th T w) (hI : MI n nm T) (z : Int) (hz : -2147483648 ≤ z ∧ z ≤ 2147483647) (x lf : Int) (hx : -2147483648 ≤ x ∧ x ≤ 2147483647) (hlf : -2147483648 ≤ lf ∧ lf ≤ 2147483647) (h14 : ∀ i, 0 ≤ i → i < n → T 14 i ≤ 511) : CT l D ca base yX4_calibrate cX4_calibrate 9 (some .int) 3 0 0 [.ref (am 0), .int (iI (z)), .int (iI (x)), .int (iI (lf))] w (fun v w' => (∃ b : Nat, (b < 4096 ∧ ((0 ≤ z ∧ z < n) → 0 < T 8 z → (∀ u, 0 ≤ u → u < n → (hs b u = 1 ↔ ∃ f, rcF T z f u = 1)))) ∧ v = some (.int (iI (if kaC n T z x lf = 0 then kmR T b nm z x else 0))) ∧ MW base ca am (kaC n T z x lf) (if kaC n T z x lf = 0 then kmS T b n nm z x lf else T) w') ∧ Fr 1 w w') (fun _ _ => False) := by
  obtain ⟨hn, hnm, e2, e18, h1t, h3t⟩ := hI.top
  refine CT.mk hlt (by decide +kernel) (by first | exact Nat.le_of_ble_eq_true rfl | simp [lg_sl, cat_rf, cat_i, cat_l, cat_r]) ?_
  intro p e s m args below meth c X htab
  rw [show lv_args 0 [.ref (am 0), .int (iI (z)), .int (iI (x)), .int (iI (lf))] = [(0, .ref (am 0)), (1, .int (iI (z))), (2, .int (iI (x))), (3, .int (iI (lf)))] from by first | rfl | simp [lv_args, cat_rf, cat_i, cat_l, cat_r]]
  refine j_aload_n X dX4_calibrate_0 (q := 1) rfl 0 rfl ?_
  refine j_iload_n X dX4_calibrate_1 (q := 2) rfl 1 rfl ?_
  refine j_callV X (As := [.int (iI (z))]) (st := []) hM.obj rfl (c_X4_isInstrument hlt hM hI z hz) sv_X4_69 (by decide) rfl (by first | decide | exact Nat.le_of_ble_eq_true rfl | simp [cat_rf, cat_i, cat_l, cat_r]) dX4_calibrate_2 (by decide) (fun _ _ h => h.elim) ?_
  rintro v9 w9 ⟨rfl, rfl⟩
  refine j_st (st := [.int (iI (tf (0 ≤ z ∧ z < n)))]) ?_
  have hb := tf_b (0 ≤ z ∧ z < n)
  refine j_istore X (i := 4) dX4_calibrate_5 (by decide) (q := 7) rfl (lv' := [(4, .int (iI (tf (0 ≤ z ∧ z < n)))), (0, .ref (am 0)), (1, .int (iI (z))), (2, .int (iI (x))), (3, .int (iI (lf)))]) (by first | rfl | simp [cat_rf, cat_i, cat_l, cat_r]) ?_
  refine j_iload_n X dX4_calibrate_7 (q := 8) rfl 3 rfl ?_
  refine j_callS X (As := [.int (iI (x))]) (st := [])  (c_X4_isError hlt x hx) ss_X4_102 (by decide) rfl (by first | decide | exact Nat.le_of_ble_eq_true rfl | simp [cat_rf, cat_i, cat_l, cat_r]) dX4_calibrate_8 (by decide) (fun _ _ h => h.elim) ?_
  rintro v9 w9 ⟨rfl, rfl⟩
  refine j_st (st := [.int (iI (tf (-99999 ≤ x ∧ x ≤ 99999)))]) ?_
  have hbx := tf_b (-99999 ≤ x ∧ x ≤ 99999)
  refine j_if_eq X (tgt := 25) dX4_calibrate_11 (by decide) (q := 14) rfl (by omega) (fun c_11 => ?_) (fun c_11 => ?_)
  · skip
    have kx := tf_0 c_11
    refine j_iconst X (a := 0) dX4_calibrate_25 (q := 26) rfl ?_
    refine j_istore X (i := 5) dX4_calibrate_26 (by decide) (q := 28) rfl (lv' := [(5, .int (iI (0))), (4, .int (iI (tf (0 ≤ z ∧ z < n)))), (0, .ref (am 0)), (1, .int (iI (z))), (2, .int (iI (x))), (3, .int (iI (lf)))]) (by first | rfl | simp [cat_rf, cat_i, cat_l, cat_r]) ?_
    refine j_aload_n X dX4_calibrate_28 (q := 29) rfl 2 rfl ?_
    refine j_iload X dX4_calibrate_29 (q := 31) rfl 1 rfl ?_
    refine j_if_ne X (tgt := 38) dX4_calibrate_31 (by decide) (q := 34) rfl (by omega) (fun c_31 => ?_) (fun c_31 => ?_)
    · skip
      have k1 : 0 ≤ z ∧ z < n := tf_1 c_31
      obtain ⟨t_10_0, t_10_1, t_10_2, t_10_3, t_10_4, t_10_5, t_10_6, t_10_7, t_10_8, t_10_9, t_10_10, t_10_11⟩ := hI.ins (i := z) k1.1 k1.2
      refine j_iload X dX4_calibrate_38 (q := 40) rfl 0 rfl ?_
      refine j_if_ne X (tgt := 47) dX4_calibrate_40 (by decide) (q := 43) rfl (by omega) (fun c_40 => ?_) (fun c_40 => ?_)
      · skip
        exact absurd c_40 (by decide)
      · skip
        refine j_iconst X (a := 2) dX4_calibrate_43 (q := 44) rfl ?_
        refine j_goto X (tgt := 66) dX4_calibrate_44 (by decide) ?_
        refine j_callV X (As := [.int (iI (2))]) (st := []) hM.obj rfl (c_X4_holds hlt hM hI (2) (by decide)) sv_X4_73 (by decide) rfl (by first | decide | exact Nat.le_of_ble_eq_true rfl | simp [cat_rf, cat_i, cat_l, cat_r]) dX4_calibrate_66 (by decide) (fun _ _ h => h.elim) ?_
        rintro v9 w9 ⟨rfl, hM9, hF9⟩
        refine j_st (st := [.int (iI (tf (((2) : Int) = 0)))]) ?_
        have hx : kaC n T z x lf = 2 := by unfold kaC; (repeat' split) <;> omega
        rw [← hx] at hM9
        have hb9 := tf_b (((2) : Int) = 0)
        refine j_if_ne X (tgt := 74) dX4_calibrate_69 (by decide) (q := 72) rfl (by omega) (fun c_69 => ?_) (fun c_69 => ?_)
        · skip
          exact absurd c_69 (by decide)
        · skip
          refine j_iconst X (a := 0) dX4_calibrate_72 (q := 73) rfl ?_
          exact j_iret X rfl dX4_calibrate_73 ((rc_any hI z).elim fun b hb => ⟨⟨b, hb, by rw [hx]; rfl, by rw [hx] at hM9 ⊢; exact hM9⟩, hF9⟩) (by decide) (by decide)
    · skip
      have k1 : ¬ (0 ≤ z ∧ z < n) := tf_0 c_31
      refine j_iconst X (a := 1) dX4_calibrate_34 (q := 35) rfl ?_
      refine j_goto X (tgt := 66) dX4_calibrate_35 (by decide) ?_
      refine j_callV X (As := [.int (iI (1))]) (st := []) hM.obj rfl (c_X4_holds hlt hM hI (1) (by decide)) sv_X4_73 (by decide) rfl (by first | decide | exact Nat.le_of_ble_eq_true rfl | simp [cat_rf, cat_i, cat_l, cat_r]) dX4_calibrate_66 (by decide) (fun _ _ h => h.elim) ?_
      rintro v9 w9 ⟨rfl, hM9, hF9⟩
      refine j_st (st := [.int (iI (tf (((1) : Int) = 0)))]) ?_
      have hx : kaC n T z x lf = 1 := by unfold kaC; (repeat' split) <;> omega
      rw [← hx] at hM9
      have hb9 := tf_b (((1) : Int) = 0)
      refine j_if_ne X (tgt := 74) dX4_calibrate_69 (by decide) (q := 72) rfl (by omega) (fun c_69 => ?_) (fun c_69 => ?_)
      · skip
        exact absurd c_69 (by decide)
      · skip
        refine j_iconst X (a := 0) dX4_calibrate_72 (q := 73) rfl ?_
        exact j_iret X rfl dX4_calibrate_73 ((rc_any hI z).elim fun b hb => ⟨⟨b, hb, by rw [hx]; rfl, by rw [hx] at hM9 ⊢; exact hM9⟩, hF9⟩) (by decide) (by decide)
  · skip
    have kx := tf_1 c_11
    refine j_iload_n X dX4_calibrate_14 (q := 15) rfl 4 rfl ?_
    refine j_callS X (As := [.int (iI (lf))]) (st := [])  (c_X4_isError hlt lf hlf) ss_X4_102 (by decide) rfl (by first | decide | exact Nat.le_of_ble_eq_true rfl | simp [cat_rf, cat_i, cat_l, cat_r]) dX4_calibrate_15 (by decide) (fun _ _ h => h.elim) ?_
    rintro v9 w9 ⟨rfl, rfl⟩
    refine j_st (st := [.int (iI (tf (-99999 ≤ lf ∧ lf ≤ 99999)))]) ?_
    have hblf := tf_b (-99999 ≤ lf ∧ lf ≤ 99999)
    refine j_if_eq X (tgt := 25) dX4_calibrate_18 (by decide) (q := 21) rfl (by omega) (fun c_18 => ?_) (fun c_18 => ?_)
    · skip
      have kl := tf_0 c_18
      refine j_iconst X (a := 0) dX4_calibrate_25 (q := 26) rfl ?_
      refine j_istore X (i := 5) dX4_calibrate_26 (by decide) (q := 28) rfl (lv' := [(5, .int (iI (0))), (4, .int (iI (tf (0 ≤ z ∧ z < n)))), (0, .ref (am 0)), (1, .int (iI (z))), (2, .int (iI (x))), (3, .int (iI (lf)))]) (by first | rfl | simp [cat_rf, cat_i, cat_l, cat_r]) ?_
      refine j_aload_n X dX4_calibrate_28 (q := 29) rfl 2 rfl ?_
      refine j_iload X dX4_calibrate_29 (q := 31) rfl 1 rfl ?_
      refine j_if_ne X (tgt := 38) dX4_calibrate_31 (by decide) (q := 34) rfl (by omega) (fun c_31 => ?_) (fun c_31 => ?_)
      · skip
        have k1 : 0 ≤ z ∧ z < n := tf_1 c_31
        obtain ⟨t_11_0, t_11_1, t_11_2, t_11_3, t_11_4, t_11_5, t_11_6, t_11_7, t_11_8, t_11_9, t_11_10, t_11_11⟩ := hI.ins (i := z) k1.1 k1.2
        refine j_iload X dX4_calibrate_38 (q := 40) rfl 0 rfl ?_
        refine j_if_ne X (tgt := 47) dX4_calibrate_40 (by decide) (q := 43) rfl (by omega) (fun c_40 => ?_) (fun c_40 => ?_)
        · skip
          exact absurd c_40 (by decide)
        · skip
          refine j_iconst X (a := 2) dX4_calibrate_43 (q := 44) rfl ?_
          refine j_goto X (tgt := 66) dX4_calibrate_44 (by decide) ?_
          refine j_callV X (As := [.int (iI (2))]) (st := []) hM.obj rfl (c_X4_holds hlt hM hI (2) (by decide)) sv_X4_73 (by decide) rfl (by first | decide | exact Nat.le_of_ble_eq_true rfl | simp [cat_rf, cat_i, cat_l, cat_r]) dX4_calibrate_66 (by decide) (fun _ _ h => h.elim) ?_
          rintro v9 w9 ⟨rfl, hM9, hF9⟩
          refine j_st (st := [.int (iI (tf (((2) : Int) = 0)))]) ?_
          have hx : kaC n T z x lf = 2 := by unfold kaC; (repeat' split) <;> omega
          rw [← hx] at hM9
          have hb9 := tf_b (((2) : Int) = 0)
          refine j_if_ne X (tgt := 74) dX4_calibrate_69 (by decide) (q := 72) rfl (by omega) (fun c_69 => ?_) (fun c_69 => ?_)
          · skip
            exact absurd c_69 (by decide)
          · skip
            refine j_iconst X (a := 0) dX4_calibrate_72 (q := 73) rfl ?_
            exact j_iret X rfl dX4_calibrate_73 ((rc_any hI z).elim fun b hb => ⟨⟨b, hb, by rw [hx]; rfl, by rw [hx] at hM9 ⊢; exact hM9⟩, hF9⟩) (by decide) (by decide)
      · skip
        have k1 : ¬ (0 ≤ z ∧ z < n) := tf_0 c_31
        refine j_iconst X (a := 1) dX4_calibrate_34 (q := 35) rfl ?_
        refine j_goto X (tgt := 66) dX4_calibrate_35 (by decide) ?_
        refine j_callV X (As := [.int (iI (1))]) (st := []) hM.obj rfl (c_X4_holds hlt hM hI (1) (by decide)) sv_X4_73 (by decide) rfl (by first | decide | exact Nat.le_of_ble_eq_true rfl | simp [cat_rf, cat_i, cat_l, cat_r]) dX4_calibrate_66 (by decide) (fun _ _ h => h.elim) ?_
        rintro v9 w9 ⟨rfl, hM9, hF9⟩
        refine j_st (st := [.int (iI (tf (((1) : Int) = 0)))]) ?_
        have hx : kaC n T z x lf = 1 := by unfold kaC; (repeat' split) <;> omega
        rw [← hx] at hM9
        have hb9 := tf_b (((1) : Int) = 0)
        refine j_if_ne X (tgt := 74) dX4_calibrate_69 (by decide) (q := 72) rfl (by omega) (fun c_69 => ?_) (fun c_69 => ?_)
        · skip
          exact absurd c_69 (by decide)
        · skip
          refine j_iconst X (a := 0) dX4_calibrate_72 (q := 73) rfl ?_
          exact j_iret X rfl dX4_calibrate_73 ((rc_any hI z).elim fun b hb => ⟨⟨b, hb, by rw [hx]; rfl, by rw [hx] at hM9 ⊢; exact hM9⟩, hF9⟩) (by decide) (by decide)
    · skip
      have kl := tf_1 c_18
      refine j_iconst X (a := 1) dX4_calibrate_21 (q := 22) rfl ?_
      refine j_goto X (tgt := 26) dX4_calibrate_22 (by decide) ?_
      refine j_istore X (i := 5) dX4_calibrate_26 (by decide) (q := 28) rfl (lv' := [(5, .int (iI (1))), (4, .int (iI (tf (0 ≤ z ∧ z < n)))), (0, .ref (am 0)), (1, .int (iI (z))), (2, .int (iI (x))), (3, .int (iI (lf)))]) (by first | rfl | simp [cat_rf, cat_i, cat_l, cat_r]) ?_
      refine j_aload_n X dX4_calibrate_28 (q := 29) rfl 2 rfl ?_
      refine j_iload X dX4_calibrate_29 (q := 31) rfl 1 rfl ?_
      refine j_if_ne X (tgt := 38) dX4_calibrate_31 (by decide) (q := 34) rfl (by omega) (fun c_31 => ?_) (fun c_31 => ?_)
      · skip
        have k1 : 0 ≤ z ∧ z < n := tf_1 c_31
        obtain ⟨t_12_0, t_12_1, t_12_2, t_12_3, t_12_4, t_12_5, t_12_6, t_12_7, t_12_8, t_12_9, t_12_10, t_12_11⟩ := hI.ins (i := z) k1.1 k1.2
        refine j_iload X dX4_calibrate_38 (q := 40) rfl 0 rfl ?_
        refine j_if_ne X (tgt := 47) dX4_calibrate_40 (by decide) (q := 43) rfl (by omega) (fun c_40 => ?_) (fun c_40 => ?_)
        · skip
          refine j_aload_n X dX4_calibrate_47 (q := 48) rfl 2 rfl ?_
          refine j_aload_n X dX4_calibrate_48 (q := 49) rfl 2 rfl ?_
          refine j_get X (v := .ref (am 4)) fl_X4_7 hM.obj rfl dX4_calibrate_49 (q := 52) rfl ?_
          refine j_iload_n X dX4_calibrate_52 (q := 53) rfl 3 rfl ?_
          refine jm_iald X hM 4 (by decide) rfl (by omega) (by show _ < (12 : Int); omega) dX4_calibrate_53 (q := 54) rfl ?_
          refine j_callV X (As := [.int (iI (T 4 z))]) (st := [.ref (am 0)]) hM.obj rfl (c_X4_firstDistrusted hlt hM hI (T 4 z) (by omega)) sv_X4_105 (by decide) rfl (by first | decide | exact Nat.le_of_ble_eq_true rfl | simp [cat_rf, cat_i, cat_l, cat_r]) dX4_calibrate_54 (by decide) (fun _ _ h => h.elim) ?_
          rintro v9 w9 ⟨rfl, rfl⟩
          refine j_st (st := [.int (iI (fof (T 4) (inM T) 12 (T 4 z))), .ref (am 0)]) ?_
          have hfr := fof_r (ref := T 4) (inF := inM T) (fun i a b => (hI.ins a b).1) 12 (T 4 z) (by omega) (by omega) (by omega)
          refine j_iconst X (a := -1) dX4_calibrate_57 (q := 58) rfl ?_
          refine j_icmp_eq X (tgt := 65) dX4_calibrate_58 (by decide) (q := 61) rfl (by omega) (by omega) (fun c_58 => ?_) (fun c_58 => ?_)
          · skip
            refine j_iconst X (a := 0) dX4_calibrate_65 (q := 66) rfl ?_
            refine j_callV X (As := [.int (iI (0))]) (st := []) hM.obj rfl (c_X4_holds hlt hM hI (0) (by decide)) sv_X4_73 (by decide) rfl (by first | decide | exact Nat.le_of_ble_eq_true rfl | simp [cat_rf, cat_i, cat_l, cat_r]) dX4_calibrate_66 (by decide) (fun _ _ h => h.elim) ?_
            rintro v9 w9 ⟨rfl, hM9, hF9⟩
            refine j_st (st := [.int (iI (tf (((0) : Int) = 0)))]) ?_
            have hx : kaC n T z x lf = 0 := by unfold kaC; (repeat' split) <;> omega
            rw [← hx] at hM9
            have hb9 := tf_b (((0) : Int) = 0)
            refine j_if_ne X (tgt := 74) dX4_calibrate_69 (by decide) (q := 72) rfl (by omega) (fun c_69 => ?_) (fun c_69 => ?_)
            · skip
              have hM0 := hM9
              rw [hx] at hM0
              obtain ⟨n0, hn0⟩ : ∃ n0 : Int, n0 = 0 := ⟨0, rfl⟩
              refine j_iconst X (a := 0) dX4_calibrate_74 (q := 75) rfl ?_
              refine j_sc (st' := [.int (iI (n0))]) (by rw [hn0]) ?_
              refine j_istore X (i := 6) dX4_calibrate_75 (by decide) (q := 77) rfl (lv' := [(6, .int (iI (n0))), (5, .int (iI (1))), (4, .int (iI (tf (0 ≤ z ∧ z < n)))), (0, .ref (am 0)), (1, .int (iI (z))), (2, .int (iI (x))), (3, .int (iI (lf)))]) (by first | rfl | simp [cat_rf, cat_i, cat_l, cat_r]) ?_
              refine j_aload_n X dX4_calibrate_77 (q := 78) rfl 3 rfl ?_
              refine j_iload_n X dX4_calibrate_78 (q := 79) rfl 4 rfl ?_
              refine j_callV X (As := [.int (iI (z))]) (st := []) hM0.obj rfl (c_X4_isCalibrated hlt hM0 hI z k1) sv_X4_83 (by decide) rfl (by first | decide | exact Nat.le_of_ble_eq_true rfl | simp [cat_rf, cat_i, cat_l, cat_r]) dX4_calibrate_79 (by decide) (fun _ _ h => h.elim) ?_
              rintro v9 w9 ⟨rfl, rfl⟩
              refine j_st (st := [.int (iI (tf (0 < T 8 z)))]) ?_
              have hb8 := tf_b (0 < T 8 z)
              refine j_if_eq X (tgt := 231) dX4_calibrate_82 (by decide) (q := 85) rfl (by omega) (fun c_82 => ?_) (fun c_82 => ?_)
              · skip
                have k8 := tf_0 c_82
                obtain ⟨b, hb, hB⟩ := rc_set hI k1
                have hK4 : km4 T b n nm z x = T := by rw [km4, if_neg k8]
                have hBB := fun (_ : 0 ≤ z ∧ z < n) (_ : 0 < T 8 z) => hB
                have hM4 : MW base ca am 0 (km4 T b n nm z x) w9 := by rw [hK4]; exact hM0
                have hF4 := hF9
                have hR6 : n0 = kmR T b nm z x := by rw [hn0, kmR, if_neg (by omega)]
                refine j_lc (lv' := [(6, .int (iI (kmR T b nm z x))), (5, .int (iI (1))), (4, .int (iI (tf (0 ≤ z ∧ z < n)))), (0, .ref (am 0)), (1, .int (iI (z))), (2, .int (iI (x))), (3, .int (iI (lf)))]) (by rw [hR6]) ?_
                have o4 : ∀ (g : Nat) (j : Int), (g ≠ 13 ∧ g ≠ 14 ∧ g ≠ 21) ∧ g ≠ 7 ∧ (g ≠ 15 ∧ g ≠ 16 ∧ g ≠ 17) → km4 T b n nm z x g j = T g j := fun g j h => km4_o h
                obtain ⟨T4, hT4⟩ : ∃ T4, T4 = km4 T b n nm z x := ⟨_, rfl⟩
                rw [← hT4] at hM4 o4
                refine j_aload_n X dX4_calibrate_231 (q := 232) rfl 3 rfl ?_
                refine j_dup X (by first | rfl | exact cat_rf _) dX4_calibrate_232 (q := 233) rfl ?_
                refine j_get X (v := .int (iI (T 3 0))) fl_X4_118 hM4.obj (by show some (Value.int (iI (T4 3 0))) = _; rw [o4 3 0 (by decide)]) dX4_calibrate_233 (q := 236) rfl ?_
                refine j_iconst X (a := 1) dX4_calibrate_236 (q := 237) rfl ?_
                refine j_iadd X dX4_calibrate_237 (q := 238) rfl ?_
                refine jm_put3 X fp_X4_118 hM4 dX4_calibrate_238 (q := 241) rfl (fun w_13 hMw_13 hFw_13 => ?_)
                refine j_aload_n X dX4_calibrate_241 (q := 242) rfl 3 rfl ?_
                refine j_get X (v := .ref (am 8)) fl_X4_22 hMw_13.obj rfl dX4_calibrate_242 (q := 245) rfl ?_
                refine j_iload_n X dX4_calibrate_245 (q := 246) rfl 4 rfl ?_
                refine j_aload_n X dX4_calibrate_246 (q := 247) rfl 3 rfl ?_
                refine j_get X (v := .int (iI (T 3 0 + 1))) fl_X4_118 hMw_13.obj rfl dX4_calibrate_247 (q := 250) rfl ?_
                refine jm_iast X hMw_13 8 (by decide) rfl (by omega) (by show _ < (12 : Int); omega) dX4_calibrate_250 (q := 251) rfl (fun w_14 hMw_14 hFw_14 => ?_)
                refine j_aload_n X dX4_calibrate_251 (q := 252) rfl 3 rfl ?_
                refine j_get X (v := .ref (am 9)) fl_X4_25 hMw_14.obj rfl dX4_calibrate_252 (q := 255) rfl ?_
                refine j_iload_n X dX4_calibrate_255 (q := 256) rfl 4 rfl ?_
                refine j_aload_n X dX4_calibrate_256 (q := 257) rfl 3 rfl ?_
                refine j_get X (v := .ref (am 4)) fl_X4_7 hMw_14.obj rfl dX4_calibrate_257 (q := 260) rfl ?_
                refine j_iload_n X dX4_calibrate_260 (q := 261) rfl 4 rfl ?_
                refine jm_iald X hMw_14 4 (by decide) rfl (by omega) (by show _ < (12 : Int); omega) dX4_calibrate_261 (q := 262) rfl ?_
                rw [up_f (by decide), up_f (by decide), o4 4 z (by decide)]
                refine jm_iast X hMw_14 9 (by decide) rfl (by omega) (by show _ < (12 : Int); omega) dX4_calibrate_262 (q := 263) rfl (fun w_15 hMw_15 hFw_15 => ?_)
                refine j_aload_n X dX4_calibrate_263 (q := 264) rfl 3 rfl ?_
                refine j_get X (v := .ref (am 10)) fl_X4_28 hMw_15.obj rfl dX4_calibrate_264 (q := 267) rfl ?_
                refine j_iload_n X dX4_calibrate_267 (q := 268) rfl 4 rfl ?_
                refine j_aload_n X dX4_calibrate_268 (q := 269) rfl 3 rfl ?_
                have q1_269 : ∀ (U : St), U = T4 → U 1 0 = T 1 0 := fun U h => by rw [h]; exact o4 1 0 (by decide)
                refine j_get X (v := .int (iI (T 1 0))) fl_X4_80 hMw_15.obj (by show some (Value.int (iI (T4 1 0))) = _; rw [o4 1 0 (by decide)]) dX4_calibrate_269 (q := 272) rfl ?_
                refine jm_iast X hMw_15 10 (by decide) rfl (by omega) (by show _ < (12 : Int); omega) dX4_calibrate_272 (q := 273) rfl (fun w_16 hMw_16 hFw_16 => ?_)
                refine j_aload_n X dX4_calibrate_273 (q := 274) rfl 3 rfl ?_
                refine j_get X (v := .ref (am 11)) fl_X4_31 hMw_16.obj rfl dX4_calibrate_274 (q := 277) rfl ?_
                refine j_iload_n X dX4_calibrate_277 (q := 278) rfl 4 rfl ?_
                refine j_aload_n X dX4_calibrate_278 (q := 279) rfl 3 rfl ?_
                have q1_279 : ∀ (U : St), U = T4 → U 1 0 = T 1 0 := fun U h => by rw [h]; exact o4 1 0 (by decide)
                refine j_get X (v := .int (iI (T 1 0))) fl_X4_80 hMw_16.obj (by show some (Value.int (iI (T4 1 0))) = _; rw [o4 1 0 (by decide)]) dX4_calibrate_279 (q := 282) rfl ?_
                refine j_aload_n X dX4_calibrate_282 (q := 283) rfl 3 rfl ?_
                refine j_get X (v := .ref (am 7)) fl_X4_19 hMw_16.obj rfl dX4_calibrate_283 (q := 286) rfl ?_
                refine j_iload_n X dX4_calibrate_286 (q := 287) rfl 4 rfl ?_
                refine jm_iald X hMw_16 7 (by decide) rfl (by omega) (by show _ < (12 : Int); omega) dX4_calibrate_287 (q := 288) rfl ?_
                rw [up_f (by decide), up_f (by decide), up_f (by decide), up_f (by decide)]
                refine j_iadd X dX4_calibrate_288 (q := 289) rfl ?_
                refine jm_iast X hMw_16 11 (by decide) rfl (by omega) (by show _ < (12 : Int); omega) dX4_calibrate_289 (q := 290) rfl (fun w_17 hMw_17 hFw_17 => ?_)
                refine j_aload_n X dX4_calibrate_290 (q := 291) rfl 3 rfl ?_
                refine j_get X (v := .ref (am 12)) fl_X4_34 hMw_17.obj rfl dX4_calibrate_291 (q := 294) rfl ?_
                refine j_iload_n X dX4_calibrate_294 (q := 295) rfl 4 rfl ?_
                refine j_iload_n X dX4_calibrate_295 (q := 296) rfl 6 rfl ?_
                refine jm_iast X hMw_17 12 (by decide) rfl (by omega) (by show _ < (12 : Int); omega) dX4_calibrate_296 (q := 297) rfl (fun w_18 hMw_18 hFw_18 => ?_)
                refine j_aload_n X dX4_calibrate_297 (q := 298) rfl 3 rfl ?_
                refine j_get X (v := .ref (am 13)) fl_X4_37 hMw_18.obj rfl dX4_calibrate_298 (q := 301) rfl ?_
                refine j_iload_n X dX4_calibrate_301 (q := 302) rfl 4 rfl ?_
                refine j_iconst X (a := 0) dX4_calibrate_302 (q := 303) rfl ?_
                refine jm_zast X hMw_18 13 (by decide) rfl (by omega) (by show _ < (12 : Int); omega) (Or.inl rfl) dX4_calibrate_303 (q := 304) rfl (fun w_19 hMw_19 hFw_19 => ?_)
                refine j_iload X dX4_calibrate_304 (q := 306) rfl 0 rfl ?_
                exact j_iret X rfl dX4_calibrate_306 (⟨⟨b, ⟨hb, hBB⟩, by rw [hx, if_pos rfl], by rw [hx, if_pos rfl, kmS, ← hT4]; exact hMw_19⟩, (((((((hF4).tr hFw_13).tr hFw_14).tr hFw_15).tr hFw_16).tr hFw_17).tr hFw_18).tr hFw_19⟩) (by decide) (by decide)
              · skip
                have k8 := tf_1 c_82
                refine j_aload_n X dX4_calibrate_85 (q := 86) rfl 3 rfl ?_
                refine j_get X (v := .ref (am 7)) fl_X4_19 hM0.obj rfl dX4_calibrate_86 (q := 89) rfl ?_
                refine j_iload_n X dX4_calibrate_89 (q := 90) rfl 4 rfl ?_
                refine jm_iald X hM0 7 (by decide) rfl (by omega) (by show _ < (12 : Int); omega) dX4_calibrate_90 (q := 91) rfl ?_
                refine j_istore X (i := 7) dX4_calibrate_91 (by decide) (q := 93) rfl (lv' := [(7, .int (iI (T 7 z))), (6, .int (iI (n0))), (5, .int (iI (1))), (4, .int (iI (tf (0 ≤ z ∧ z < n)))), (0, .ref (am 0)), (1, .int (iI (z))), (2, .int (iI (x))), (3, .int (iI (lf)))]) (by first | rfl | simp [cat_rf, cat_i, cat_l, cat_r]) ?_
                have td2 : Int.tdiv (T 7 z) 2 = T 7 z / 2 := Int.tdiv_eq_ediv_of_nonneg (by omega)
                have td4 : Int.tdiv (T 7 z) 4 = T 7 z / 4 := Int.tdiv_eq_ediv_of_nonneg (by omega)
                refine j_iload_n X dX4_calibrate_93 (q := 94) rfl 6 rfl ?_
                refine j_callS X (As := [.int (iI (x))]) (st := [])  (c_X4_unsigned hlt x (by omega)) ss_X4_108 (by decide) rfl (by first | decide | exact Nat.le_of_ble_eq_true rfl | simp [cat_rf, cat_i, cat_l, cat_r]) dX4_calibrate_94 (by decide) (fun _ _ h => h.elim) ?_
                rintro v9 w9 ⟨rfl, rfl⟩
                refine j_st (st := [.int (iI (iabs x))]) ?_
                have hab : 0 ≤ iabs x ∧ iabs x ≤ 99999 := by unfold iabs; split <;> omega
                refine j_aload_n X dX4_calibrate_97 (q := 98) rfl 4 rfl ?_
                refine j_get X (v := .ref (am 5)) fl_X4_13 hM0.obj rfl dX4_calibrate_98 (q := 101) rfl ?_
                refine j_iload_n X dX4_calibrate_101 (q := 102) rfl 5 rfl ?_
                refine jm_iald X hM0 5 (by decide) rfl (by omega) (by show _ < (12 : Int); omega) dX4_calibrate_102 (q := 103) rfl ?_
                refine j_icmp_le X (tgt := 110) dX4_calibrate_103 (by decide) (q := 106) rfl (by omega) (by omega) (fun c_103 => ?_) (fun c_103 => ?_)
                · skip
                  refine j_iconst X (a := 0) dX4_calibrate_110 (q := 111) rfl ?_
                  refine j_istore X (i := 8) dX4_calibrate_111 (by decide) (q := 113) rfl (lv' := [(8, .int (iI (0))), (7, .int (iI (T 7 z))), (6, .int (iI (n0))), (5, .int (iI (1))), (4, .int (iI (tf (0 ≤ z ∧ z < n)))), (0, .ref (am 0)), (1, .int (iI (z))), (2, .int (iI (x))), (3, .int (iI (lf)))]) (by first | rfl | simp [cat_rf, cat_i, cat_l, cat_r]) ?_
                  refine j_iload X dX4_calibrate_113 (q := 115) rfl 0 rfl ?_
                  refine j_if_eq X (tgt := 143) dX4_calibrate_115 (by decide) (q := 118) rfl (by omega) (fun c_115 => ?_) (fun c_115 => ?_)
                  · skip
                    refine j_iconst X (a := 2) dX4_calibrate_143 (q := 144) rfl ?_
                    refine j_iload_n X dX4_calibrate_144 (q := 145) rfl 7 rfl ?_
                    refine j_callS X (As := [.int (iI (x))]) (st := [.int (iI (2))])  (c_X4_unsigned hlt x (by omega)) ss_X4_108 (by decide) rfl (by first | decide | exact Nat.le_of_ble_eq_true rfl | simp [cat_rf, cat_i, cat_l, cat_r]) dX4_calibrate_145 (by decide) (fun _ _ h => h.elim) ?_
                    rintro v9 w9 ⟨rfl, rfl⟩
                    refine j_st (st := [.int (iI (iabs x)), .int (iI (2))]) ?_
                    refine j_imul X dX4_calibrate_148 (q := 149) rfl ?_
                    refine j_aload_n X dX4_calibrate_149 (q := 150) rfl 5 rfl ?_
                    refine j_get X (v := .ref (am 5)) fl_X4_13 hM0.obj rfl dX4_calibrate_150 (q := 153) rfl ?_
                    refine j_iload_n X dX4_calibrate_153 (q := 154) rfl 6 rfl ?_
                    refine jm_iald X hM0 5 (by decide) rfl (by omega) (by show _ < (12 : Int); omega) dX4_calibrate_154 (q := 155) rfl ?_
                    refine j_icmp_gt X (tgt := 186) dX4_calibrate_155 (by decide) (q := 158) rfl (by omega) (by omega) (fun c_155 => ?_) (fun c_155 => ?_)
                    · skip
                      obtain ⟨iv, hiv⟩ : ∃ iv, iv = niv (T 5 z) (iabs x) (T 7 z) := ⟨_, rfl⟩
                      have hniv : T 7 z = iv := by
                        rw [hiv]
                        rw [niv, if_neg (by omega), if_neg (by omega)]
                      have hnb : 1 ≤ niv (T 5 z) (iabs x) (T 7 z) ∧ niv (T 5 z) (iabs x) (T 7 z) ≤ 999 := niv_b (by omega)
                      obtain ⟨b, hb, hB⟩ := rc_set hI k1
                      have hR6 : n0 = kmR T b nm z x := by rw [hn0, kmR, if_neg (by omega)]
                      have hK1 : km1 T b n nm z x = T := by rw [km1, if_neg (by omega)]
                      have hF7 := hF9
                      have hM7 : MW base ca am 0 (km1 T b n nm z x) w9 := by rw [hK1]; exact hM0
                      have hBB := fun (_ : 0 ≤ z ∧ z < n) (_ : 0 < T 8 z) => hB
                      refine j_lc (lv' := [(8, .int (iI (0))), (7, .int (iI (iv))), (6, .int (iI (kmR T b nm z x))), (5, .int (iI (1))), (4, .int (iI (tf (0 ≤ z ∧ z < n)))), (0, .ref (am 0)), (1, .int (iI (z))), (2, .int (iI (x))), (3, .int (iI (lf)))]) (by rw [hniv, hR6]) ?_
                      refine j_aload_n X dX4_calibrate_186 (q := 187) rfl 5 rfl ?_
                      refine j_get X (v := .ref (am 7)) fl_X4_19 hM7.obj rfl dX4_calibrate_187 (q := 190) rfl ?_
                      refine j_iload_n X dX4_calibrate_190 (q := 191) rfl 6 rfl ?_
                      refine j_iload X dX4_calibrate_191 (q := 193) rfl 1 rfl ?_
                      refine jm_iast X hM7 7 (by decide) rfl (by omega) (by show _ < (12 : Int); omega) dX4_calibrate_193 (q := 194) rfl (fun w_20 hMw_20 hFw_20 => ?_)
                      have hM6 : MW base ca am 0 (km2 T b n nm z x) w_20 := by rw [km2, ← hiv]; exact hMw_20
                      have hF6 := hF7.tr hFw_20
                      have o2 : ∀ (g : Nat) (j : Int), (g ≠ 13 ∧ g ≠ 14 ∧ g ≠ 21) ∧ g ≠ 7 → km2 T b n nm z x g j = T g j := fun g j h => by rw [km2, up_f h.2, km1_o h.1]
                      refine j_aload_n X dX4_calibrate_194 (q := 195) rfl 5 rfl ?_
                      refine j_get X (v := .int (iI (T 1 0))) fl_X4_80 hM6.obj (by show some (Value.int (iI (km2 T b n nm z x 1 0))) = _; rw [o2 1 0 (by decide)]) dX4_calibrate_195 (q := 198) rfl ?_
                      refine j_aload_n X dX4_calibrate_198 (q := 199) rfl 5 rfl ?_
                      refine j_get X (v := .ref (am 10)) fl_X4_28 hM6.obj rfl dX4_calibrate_199 (q := 202) rfl ?_
                      refine j_iload_n X dX4_calibrate_202 (q := 203) rfl 6 rfl ?_
                      refine jm_iald X hM6 10 (by decide) rfl (by omega) (by show _ < (12 : Int); omega) dX4_calibrate_203 (q := 204) rfl ?_
                      rw [o2 10 z (by decide)]
                      refine j_icmp_le X (tgt := 231) dX4_calibrate_204 (by decide) (q := 207) rfl (by omega) (by omega) (fun c_204 => ?_) (fun c_204 => ?_)
                      · skip
                        have hK4 : km4 T b n nm z x = km2 T b n nm z x := by rw [km4, if_pos k8, km3, if_neg (by omega)]
                        have hM4 := hM6
                        rw [← hK4] at hM4
                        have hF4 := hF6
                        have o4 : ∀ (g : Nat) (j : Int), (g ≠ 13 ∧ g ≠ 14 ∧ g ≠ 21) ∧ g ≠ 7 ∧ (g ≠ 15 ∧ g ≠ 16 ∧ g ≠ 17) → km4 T b n nm z x g j = T g j := fun g j h => km4_o h
                        obtain ⟨T4, hT4⟩ : ∃ T4, T4 = km4 T b n nm z x := ⟨_, rfl⟩
                        rw [← hT4] at hM4 o4
                        refine j_aload_n X dX4_calibrate_231 (q := 232) rfl 5 rfl ?_
                        refine j_dup X (by first | rfl | exact cat_rf _) dX4_calibrate_232 (q := 233) rfl ?_
                        refine j_get X (v := .int (iI (T 3 0))) fl_X4_118 hM4.obj (by show some (Value.int (iI (T4 3 0))) = _; rw [o4 3 0 (by decide)]) dX4_calibrate_233 (q := 236) rfl ?_
                        refine j_iconst X (a := 1) dX4_calibrate_236 (q := 237) rfl ?_
                        refine j_iadd X dX4_calibrate_237 (q := 238) rfl ?_
                        refine jm_put3 X fp_X4_118 hM4 dX4_calibrate_238 (q := 241) rfl (fun w_21 hMw_21 hFw_21 => ?_)
                        refine j_aload_n X dX4_calibrate_241 (q := 242) rfl 5 rfl ?_
                        refine j_get X (v := .ref (am 8)) fl_X4_22 hMw_21.obj rfl dX4_calibrate_242 (q := 245) rfl ?_
                        refine j_iload_n X dX4_calibrate_245 (q := 246) rfl 6 rfl ?_
                        refine j_aload_n X dX4_calibrate_246 (q := 247) rfl 5 rfl ?_
                        refine j_get X (v := .int (iI (T 3 0 + 1))) fl_X4_118 hMw_21.obj rfl dX4_calibrate_247 (q := 250) rfl ?_
                        refine jm_iast X hMw_21 8 (by decide) rfl (by omega) (by show _ < (12 : Int); omega) dX4_calibrate_250 (q := 251) rfl (fun w_22 hMw_22 hFw_22 => ?_)
                        refine j_aload_n X dX4_calibrate_251 (q := 252) rfl 5 rfl ?_
                        refine j_get X (v := .ref (am 9)) fl_X4_25 hMw_22.obj rfl dX4_calibrate_252 (q := 255) rfl ?_
                        refine j_iload_n X dX4_calibrate_255 (q := 256) rfl 6 rfl ?_
                        refine j_aload_n X dX4_calibrate_256 (q := 257) rfl 5 rfl ?_
                        refine j_get X (v := .ref (am 4)) fl_X4_7 hMw_22.obj rfl dX4_calibrate_257 (q := 260) rfl ?_
                        refine j_iload_n X dX4_calibrate_260 (q := 261) rfl 6 rfl ?_
                        refine jm_iald X hMw_22 4 (by decide) rfl (by omega) (by show _ < (12 : Int); omega) dX4_calibrate_261 (q := 262) rfl ?_
                        rw [up_f (by decide), up_f (by decide), o4 4 z (by decide)]
                        refine jm_iast X hMw_22 9 (by decide) rfl (by omega) (by show _ < (12 : Int); omega) dX4_calibrate_262 (q := 263) rfl (fun w_23 hMw_23 hFw_23 => ?_)
                        refine j_aload_n X dX4_calibrate_263 (q := 264) rfl 5 rfl ?_
                        refine j_get X (v := .ref (am 10)) fl_X4_28 hMw_23.obj rfl dX4_calibrate_264 (q := 267) rfl ?_
                        refine j_iload_n X dX4_calibrate_267 (q := 268) rfl 6 rfl ?_
                        refine j_aload_n X dX4_calibrate_268 (q := 269) rfl 5 rfl ?_
                        have q1_269 : ∀ (U : St), U = T4 → U 1 0 = T 1 0 := fun U h => by rw [h]; exact o4 1 0 (by decide)
                        refine j_get X (v := .int (iI (T 1 0))) fl_X4_80 hMw_23.obj (by show some (Value.int (iI (T4 1 0))) = _; rw [o4 1 0 (by decide)]) dX4_calibrate_269 (q := 272) rfl ?_
                        refine jm_iast X hMw_23 10 (by decide) rfl (by omega) (by show _ < (12 : Int); omega) dX4_calibrate_272 (q := 273) rfl (fun w_24 hMw_24 hFw_24 => ?_)
                        refine j_aload_n X dX4_calibrate_273 (q := 274) rfl 5 rfl ?_
                        refine j_get X (v := .ref (am 11)) fl_X4_31 hMw_24.obj rfl dX4_calibrate_274 (q := 277) rfl ?_
                        refine j_iload_n X dX4_calibrate_277 (q := 278) rfl 6 rfl ?_
                        refine j_aload_n X dX4_calibrate_278 (q := 279) rfl 5 rfl ?_
                        have q1_279 : ∀ (U : St), U = T4 → U 1 0 = T 1 0 := fun U h => by rw [h]; exact o4 1 0 (by decide)
                        refine j_get X (v := .int (iI (T 1 0))) fl_X4_80 hMw_24.obj (by show some (Value.int (iI (T4 1 0))) = _; rw [o4 1 0 (by decide)]) dX4_calibrate_279 (q := 282) rfl ?_
                        refine j_aload_n X dX4_calibrate_282 (q := 283) rfl 5 rfl ?_
                        refine j_get X (v := .ref (am 7)) fl_X4_19 hMw_24.obj rfl dX4_calibrate_283 (q := 286) rfl ?_
                        refine j_iload_n X dX4_calibrate_286 (q := 287) rfl 6 rfl ?_
                        refine jm_iald X hMw_24 7 (by decide) rfl (by omega) (by show _ < (12 : Int); omega) dX4_calibrate_287 (q := 288) rfl ?_
                        rw [up_f (by decide), up_f (by decide), up_f (by decide), up_f (by decide)]
                        refine j_iadd X dX4_calibrate_288 (q := 289) rfl ?_
                        refine jm_iast X hMw_24 11 (by decide) rfl (by omega) (by show _ < (12 : Int); omega) dX4_calibrate_289 (q := 290) rfl (fun w_25 hMw_25 hFw_25 => ?_)
                        refine j_aload_n X dX4_calibrate_290 (q := 291) rfl 5 rfl ?_
                        refine j_get X (v := .ref (am 12)) fl_X4_34 hMw_25.obj rfl dX4_calibrate_291 (q := 294) rfl ?_
                        refine j_iload_n X dX4_calibrate_294 (q := 295) rfl 6 rfl ?_
                        refine j_iload_n X dX4_calibrate_295 (q := 296) rfl 8 rfl ?_
                        refine jm_iast X hMw_25 12 (by decide) rfl (by omega) (by show _ < (12 : Int); omega) dX4_calibrate_296 (q := 297) rfl (fun w_26 hMw_26 hFw_26 => ?_)
                        refine j_aload_n X dX4_calibrate_297 (q := 298) rfl 5 rfl ?_
                        refine j_get X (v := .ref (am 13)) fl_X4_37 hMw_26.obj rfl dX4_calibrate_298 (q := 301) rfl ?_
                        refine j_iload_n X dX4_calibrate_301 (q := 302) rfl 6 rfl ?_
                        refine j_iconst X (a := 0) dX4_calibrate_302 (q := 303) rfl ?_
                        refine jm_zast X hMw_26 13 (by decide) rfl (by omega) (by show _ < (12 : Int); omega) (Or.inl rfl) dX4_calibrate_303 (q := 304) rfl (fun w_27 hMw_27 hFw_27 => ?_)
                        refine j_iload X dX4_calibrate_304 (q := 306) rfl 2 rfl ?_
                        exact j_iret X rfl dX4_calibrate_306 (⟨⟨b, ⟨hb, hBB⟩, by rw [hx, if_pos rfl], by rw [hx, if_pos rfl, kmS, ← hT4]; exact hMw_27⟩, (((((((hF4).tr hFw_21).tr hFw_22).tr hFw_23).tr hFw_24).tr hFw_25).tr hFw_26).tr hFw_27⟩) (by decide) (by decide)
                      · skip
                        refine j_aload_n X dX4_calibrate_207 (q := 208) rfl 5 rfl ?_
                        refine j_iload_n X dX4_calibrate_208 (q := 209) rfl 6 rfl ?_
                        refine j_aload_n X dX4_calibrate_209 (q := 210) rfl 5 rfl ?_
                        refine j_get X (v := .int (iI (T 1 0))) fl_X4_80 hM6.obj (by show some (Value.int (iI (km2 T b n nm z x 1 0))) = _; rw [o2 1 0 (by decide)]) dX4_calibrate_210 (q := 213) rfl ?_
                        refine j_aload_n X dX4_calibrate_213 (q := 214) rfl 5 rfl ?_
                        refine j_get X (v := .ref (am 10)) fl_X4_28 hM6.obj rfl dX4_calibrate_214 (q := 217) rfl ?_
                        refine j_iload_n X dX4_calibrate_217 (q := 218) rfl 6 rfl ?_
                        refine jm_iald X hM6 10 (by decide) rfl (by omega) (by show _ < (12 : Int); omega) dX4_calibrate_218 (q := 219) rfl ?_
                        rw [o2 10 z (by decide)]
                        refine j_isub X dX4_calibrate_219 (q := 220) rfl ?_
                        refine j_iload_n X dX4_calibrate_220 (q := 221) rfl 7 rfl ?_
                        refine j_aload_n X dX4_calibrate_221 (q := 222) rfl 5 rfl ?_
                        refine j_get X (v := .ref (am 12)) fl_X4_34 hM6.obj rfl dX4_calibrate_222 (q := 225) rfl ?_
                        refine j_iload_n X dX4_calibrate_225 (q := 226) rfl 6 rfl ?_
                        refine jm_iald X hM6 12 (by decide) rfl (by omega) (by show _ < (12 : Int); omega) dX4_calibrate_226 (q := 227) rfl ?_
                        rw [o2 12 z (by decide)]
                        refine j_isub X dX4_calibrate_227 (q := 228) rfl ?_
                        refine j_callV X (As := [.int (iI (z)), .int (iI ((T 1 0) - (T 10 z))), .int (iI (x - (T 12 z)))]) (st := []) hM6.obj rfl (c_X4_laysPoint hlt hM6 z (T 1 0 - T 10 z) (x - T 12 z) (by omega) (by rw [o2 15 z (by decide)]; omega)) sv_X4_114 (by decide) rfl (by first | decide | exact Nat.le_of_ble_eq_true rfl | simp [cat_rf, cat_i, cat_l, cat_r]) dX4_calibrate_228 (by decide) (fun _ _ h => h.elim) ?_
                        rintro v9 w9 ⟨rfl, hM5, hF5⟩
                        refine j_st (st := []) ?_
                        have hK4 : km4 T b n nm z x = lpS (km2 T b n nm z x) z (T 1 0 - T 10 z) (x - T 12 z) := by rw [km4, if_pos k8, km3, if_pos (by omega)]
                        have hM4 := hM5
                        rw [← hK4] at hM4
                        have hF4 := hF6.tr hF5
                        have o4 : ∀ (g : Nat) (j : Int), (g ≠ 13 ∧ g ≠ 14 ∧ g ≠ 21) ∧ g ≠ 7 ∧ (g ≠ 15 ∧ g ≠ 16 ∧ g ≠ 17) → km4 T b n nm z x g j = T g j := fun g j h => km4_o h
                        obtain ⟨T4, hT4⟩ : ∃ T4, T4 = km4 T b n nm z x := ⟨_, rfl⟩
                        rw [← hT4] at hM4 o4
                        refine j_aload_n X dX4_calibrate_231 (q := 232) rfl 5 rfl ?_
                        refine j_dup X (by first | rfl | exact cat_rf _) dX4_calibrate_232 (q := 233) rfl ?_
                        refine j_get X (v := .int (iI (T 3 0))) fl_X4_118 hM4.obj (by show some (Value.int (iI (T4 3 0))) = _; rw [o4 3 0 (by decide)]) dX4_calibrate_233 (q := 236) rfl ?_
                        refine j_iconst X (a := 1) dX4_calibrate_236 (q := 237) rfl ?_
                        refine j_iadd X dX4_calibrate_237 (q := 238) rfl ?_
                        refine jm_put3 X fp_X4_118 hM4 dX4_calibrate_238 (q := 241) rfl (fun w_28 hMw_28 hFw_28 => ?_)
                        refine j_aload_n X dX4_calibrate_241 (q := 242) rfl 5 rfl ?_
                        refine j_get X (v := .ref (am 8)) fl_X4_22 hMw_28.obj rfl dX4_calibrate_242 (q := 245) rfl ?_
                        refine j_iload_n X dX4_calibrate_245 (q := 246) rfl 6 rfl ?_
                        refine j_aload_n X dX4_calibrate_246 (q := 247) rfl 5 rfl ?_
                        refine j_get X (v := .int (iI (T 3 0 + 1))) fl_X4_118 hMw_28.obj rfl dX4_calibrate_247 (q := 250) rfl ?_
                        refine jm_iast X hMw_28 8 (by decide) rfl (by omega) (by show _ < (12 : Int); omega) dX4_calibrate_250 (q := 251) rfl (fun w_29 hMw_29 hFw_29 => ?_)
                        refine j_aload_n X dX4_calibrate_251 (q := 252) rfl 5 rfl ?_
                        refine j_get X (v := .ref (am 9)) fl_X4_25 hMw_29.obj rfl dX4_calibrate_252 (q := 255) rfl ?_
                        refine j_iload_n X dX4_calibrate_255 (q := 256) rfl 6 rfl ?_
                        refine j_aload_n X dX4_calibrate_256 (q := 257) rfl 5 rfl ?_
                        refine j_get X (v := .ref (am 4)) fl_X4_7 hMw_29.obj rfl dX4_calibrate_257 (q := 260) rfl ?_
                        refine j_iload_n X dX4_calibrate_260 (q := 261) rfl 6 rfl ?_
                        refine jm_iald X hMw_29 4 (by decide) rfl (by omega) (by show _ < (12 : Int); omega) dX4_calibrate_261 (q := 262) rfl ?_
                        rw [up_f (by decide), up_f (by decide), o4 4 z (by decide)]
                        refine jm_iast X hMw_29 9 (by decide) rfl (by omega) (by show _ < (12 : Int); omega) dX4_calibrate_262 (q := 263) rfl (fun w_30 hMw_30 hFw_30 => ?_)
                        refine j_aload_n X dX4_calibrate_263 (q := 264) rfl 5 rfl ?_
                        refine j_get X (v := .ref (am 10)) fl_X4_28 hMw_30.obj rfl dX4_calibrate_264 (q := 267) rfl ?_
                        refine j_iload_n X dX4_calibrate_267 (q := 268) rfl 6 rfl ?_
                        refine j_aload_n X dX4_calibrate_268 (q := 269) rfl 5 rfl ?_
                        have q1_269 : ∀ (U : St), U = T4 → U 1 0 = T 1 0 := fun U h => by rw [h]; exact o4 1 0 (by decide)
                        refine j_get X (v := .int (iI (T 1 0))) fl_X4_80 hMw_30.obj (by show some (Value.int (iI (T4 1 0))) = _; rw [o4 1 0 (by decide)]) dX4_calibrate_269 (q := 272) rfl ?_
                        refine jm_iast X hMw_30 10 (by decide) rfl (by omega) (by show _ < (12 : Int); omega) dX4_calibrate_272 (q := 273) rfl (fun w_31 hMw_31 hFw_31 => ?_)
                        refine j_aload_n X dX4_calibrate_273 (q := 274) rfl 5 rfl ?_
                        refine j_get X (v := .ref (am 11)) fl_X4_31 hMw_31.obj rfl dX4_calibrate_274 (q := 277) rfl ?_
                        refine j_iload_n X dX4_calibrate_277 (q := 278) rfl 6 rfl ?_
                        refine j_aload_n X dX4_calibrate_278 (q := 279) rfl 5 rfl ?_
                        have q1_279 : ∀ (U : St), U = T4 → U 1 0 = T 1 0 := fun U h => by rw [h]; exact o4 1 0 (by decide)
                        refine j_get X (v := .int (iI (T 1 0))) fl_X4_80 hMw_31.obj (by show some (Value.int (iI (T4 1 0))) = _; rw [o4 1 0 (by decide)]) dX4_calibrate_279 (q := 282) rfl ?_
                        refine j_aload_n X dX4_calibrate_282 (q := 283) rfl 5 rfl ?_
                        refine j_get X (v := .ref (am 7)) fl_X4_19 hMw_31.obj rfl dX4_calibrate_283 (q := 286) rfl ?_
                        refine j_iload_n X dX4_calibrate_286 (q := 287) rfl 6 rfl ?_
                        refine jm_iald X hMw_31 7 (by decide) rfl (by omega) (by show _ < (12 : Int); omega) dX4_calibrate_287 (q := 288) rfl ?_
                        rw [up_f (by decide), up_f (by decide), up_f (by decide), up_f (by decide)]
                        refine j_iadd X dX4_calibrate_288 (q := 289) rfl ?_
                        refine jm_iast X hMw_31 11 (by decide) rfl (by omega) (by show _ < (12 : Int); omega) dX4_calibrate_289 (q := 290) rfl (fun w_32 hMw_32 hFw_32 => ?_)
                        refine j_aload_n X dX4_calibrate_290 (q := 291) rfl 5 rfl ?_
                        refine j_get X (v := .ref (am 12)) fl_X4_34 hMw_32.obj rfl dX4_calibrate_291 (q := 294) rfl ?_
                        refine j_iload_n X dX4_calibrate_294 (q := 295) rfl 6 rfl ?_
                        refine j_iload_n X dX4_calibrate_295 (q := 296) rfl 8 rfl ?_
                        refine jm_iast X hMw_32 12 (by decide) rfl (by omega) (by show _ < (12 : Int); omega) dX4_calibrate_296 (q := 297) rfl (fun w_33 hMw_33 hFw_33 => ?_)
                        refine j_aload_n X dX4_calibrate_297 (q := 298) rfl 5 rfl ?_
                        refine j_get X (v := .ref (am 13)) fl_X4_37 hMw_33.obj rfl dX4_calibrate_298 (q := 301) rfl ?_
                        refine j_iload_n X dX4_calibrate_301 (q := 302) rfl 6 rfl ?_
                        refine j_iconst X (a := 0) dX4_calibrate_302 (q := 303) rfl ?_
                        refine jm_zast X hMw_33 13 (by decide) rfl (by omega) (by show _ < (12 : Int); omega) (Or.inl rfl) dX4_calibrate_303 (q := 304) rfl (fun w_34 hMw_34 hFw_34 => ?_)
                        refine j_iload X dX4_calibrate_304 (q := 306) rfl 2 rfl ?_
                        exact j_iret X rfl dX4_calibrate_306 (⟨⟨b, ⟨hb, hBB⟩, by rw [hx, if_pos rfl], by rw [hx, if_pos rfl, kmS, ← hT4]; exact hMw_34⟩, (((((((hF4).tr hFw_28).tr hFw_29).tr hFw_30).tr hFw_31).tr hFw_32).tr hFw_33).tr hFw_34⟩) (by decide) (by decide)
                    · skip
                      refine j_iload X dX4_calibrate_158 (q := 160) rfl 1 rfl ?_
                      refine j_iload X dX4_calibrate_160 (q := 162) rfl 1 rfl ?_
                      refine j_iconst X (a := 4) dX4_calibrate_162 (q := 163) rfl ?_
                      refine j_idiv X (by omega) (by omega) dX4_calibrate_163 (q := 164) rfl ?_
                      refine j_iadd X dX4_calibrate_164 (q := 165) rfl ?_
                      refine j_sipush X (a := 999) (by decide +kernel) dX4_calibrate_165 (q := 168) rfl ?_
                      refine j_icmp_le X (tgt := 177) dX4_calibrate_168 (by decide) (q := 171) rfl (by omega) (by omega) (fun c_168 => ?_) (fun c_168 => ?_)
                      · skip
                        refine j_iload X dX4_calibrate_177 (q := 179) rfl 1 rfl ?_
                        refine j_iload X dX4_calibrate_179 (q := 181) rfl 1 rfl ?_
                        refine j_iconst X (a := 4) dX4_calibrate_181 (q := 182) rfl ?_
                        refine j_idiv X (by omega) (by omega) dX4_calibrate_182 (q := 183) rfl ?_
                        refine j_iadd X dX4_calibrate_183 (q := 184) rfl ?_
                        refine j_istore X (i := 7) dX4_calibrate_184 (by decide) (q := 186) rfl (lv' := [(7, .int (iI ((T 7 z) + (Int.tdiv (T 7 z) (4))))), (8, .int (iI (0))), (6, .int (iI (n0))), (5, .int (iI (1))), (4, .int (iI (tf (0 ≤ z ∧ z < n)))), (0, .ref (am 0)), (1, .int (iI (z))), (2, .int (iI (x))), (3, .int (iI (lf)))]) (by first | rfl | simp [cat_rf, cat_i, cat_l, cat_r]) ?_
                        obtain ⟨iv, hiv⟩ : ∃ iv, iv = niv (T 5 z) (iabs x) (T 7 z) := ⟨_, rfl⟩
                        have hniv : (T 7 z) + (Int.tdiv (T 7 z) (4)) = iv := by
                          rw [hiv]
                          rw [niv, if_neg (by omega), if_pos (by omega)]; by_cases q : T 7 z + (T 7 z).tdiv 4 < 999; rw [if_pos q]; rw [if_neg q]; omega
                        have hnb : 1 ≤ niv (T 5 z) (iabs x) (T 7 z) ∧ niv (T 5 z) (iabs x) (T 7 z) ≤ 999 := niv_b (by omega)
                        obtain ⟨b, hb, hB⟩ := rc_set hI k1
                        have hR6 : n0 = kmR T b nm z x := by rw [hn0, kmR, if_neg (by omega)]
                        have hK1 : km1 T b n nm z x = T := by rw [km1, if_neg (by omega)]
                        have hF7 := hF9
                        have hM7 : MW base ca am 0 (km1 T b n nm z x) w9 := by rw [hK1]; exact hM0
                        have hBB := fun (_ : 0 ≤ z ∧ z < n) (_ : 0 < T 8 z) => hB
                        refine j_lc (lv' := [(7, .int (iI (iv))), (8, .int (iI (0))), (6, .int (iI (kmR T b nm z x))), (5, .int (iI (1))), (4, .int (iI (tf (0 ≤ z ∧ z < n)))), (0, .ref (am 0)), (1, .int (iI (z))), (2, .int (iI (x))), (3, .int (iI (lf)))]) (by rw [hniv, hR6]) ?_
                        refine j_aload_n X dX4_calibrate_186 (q := 187) rfl 5 rfl ?_
                        refine j_get X (v := .ref (am 7)) fl_X4_19 hM7.obj rfl dX4_calibrate_187 (q := 190) rfl ?_
                        refine j_iload_n X dX4_calibrate_190 (q := 191) rfl 6 rfl ?_
                        refine j_iload X dX4_calibrate_191 (q := 193) rfl 0 rfl ?_
                        refine jm_iast X hM7 7 (by decide) rfl (by omega) (by show _ < (12 : Int); omega) dX4_calibrate_193 (q := 194) rfl (fun w_35 hMw_35 hFw_35 => ?_)
                        have hM6 : MW base ca am 0 (km2 T b n nm z x) w_35 := by rw [km2, ← hiv]; exact hMw_35
                        have hF6 := hF7.tr hFw_35
                        have o2 : ∀ (g : Nat) (j : Int), (g ≠ 13 ∧ g ≠ 14 ∧ g ≠ 21) ∧ g ≠ 7 → km2 T b n nm z x g j = T g j := fun g j h => by rw [km2, up_f h.2, km1_o h.1]
                        refine j_aload_n X dX4_calibrate_194 (q := 195) rfl 5 rfl ?_
                        refine j_get X (v := .int (iI (T 1 0))) fl_X4_80 hM6.obj (by show some (Value.int (iI (km2 T b n nm z x 1 0))) = _; rw [o2 1 0 (by decide)]) dX4_calibrate_195 (q := 198) rfl ?_
                        refine j_aload_n X dX4_calibrate_198 (q := 199) rfl 5 rfl ?_
                        refine j_get X (v := .ref (am 10)) fl_X4_28 hM6.obj rfl dX4_calibrate_199 (q := 202) rfl ?_
                        refine j_iload_n X dX4_calibrate_202 (q := 203) rfl 6 rfl ?_
                        refine jm_iald X hM6 10 (by decide) rfl (by omega) (by show _ < (12 : Int); omega) dX4_calibrate_203 (q := 204) rfl ?_
                        rw [o2 10 z (by decide)]
                        refine j_icmp_le X (tgt := 231) dX4_calibrate_204 (by decide) (q := 207) rfl (by omega) (by omega) (fun c_204 => ?_) (fun c_204 => ?_)
                        · skip
                          have hK4 : km4 T b n nm z x = km2 T b n nm z x := by rw [km4, if_pos k8, km3, if_neg (by omega)]
                          have hM4 := hM6
                          rw [← hK4] at hM4
                          have hF4 := hF6
                          have o4 : ∀ (g : Nat) (j : Int), (g ≠ 13 ∧ g ≠ 14 ∧ g ≠ 21) ∧ g ≠ 7 ∧ (g ≠ 15 ∧ g ≠ 16 ∧ g ≠ 17) → km4 T b n nm z x g j = T g j := fun g j h => km4_o h
                          obtain ⟨T4, hT4⟩ : ∃ T4, T4 = km4 T b n nm z x := ⟨_, rfl⟩
                          rw [← hT4] at hM4 o4
                          refine j_aload_n X dX4_calibrate_231 (q := 232) rfl 5 rfl ?_
                          refine j_dup X (by first | rfl | exact cat_rf _) dX4_calibrate_232 (q := 233) rfl ?_
                          refine j_get X (v := .int (iI (T 3 0))) fl_X4_118 hM4.obj (by show some (Value.int (iI (T4 3 0))) = _; rw [o4 3 0 (by decide)]) dX4_calibrate_233 (q := 236) rfl ?_
                          refine j_iconst X (a := 1) dX4_calibrate_236 (q := 237) rfl ?_
                          refine j_iadd X dX4_calibrate_237 (q := 238) rfl ?_
                          refine jm_put3 X fp_X4_118 hM4 dX4_calibrate_238 (q := 241) rfl (fun w_36 hMw_36 hFw_36 => ?_)
                          refine j_aload_n X dX4_calibrate_241 (q := 242) rfl 5 rfl ?_
                          refine j_get X (v := .ref (am 8)) fl_X4_22 hMw_36.obj rfl dX4_calibrate_242 (q := 245) rfl ?_
                          refine j_iload_n X dX4_calibrate_245 (q := 246) rfl 6 rfl ?_
                          refine j_aload_n X dX4_calibrate_246 (q := 247) rfl 5 rfl ?_
                          refine j_get X (v := .int (iI (T 3 0 + 1))) fl_X4_118 hMw_36.obj rfl dX4_calibrate_247 (q := 250) rfl ?_
                          refine jm_iast X hMw_36 8 (by decide) rfl (by omega) (by show _ < (12 : Int); omega) dX4_calibrate_250 (q := 251) rfl (fun w_37 hMw_37 hFw_37 => ?_)
                          refine j_aload_n X dX4_calibrate_251 (q := 252) rfl 5 rfl ?_
                          refine j_get X (v := .ref (am 9)) fl_X4_25 hMw_37.obj rfl dX4_calibrate_252 (q := 255) rfl ?_
                          refine j_iload_n X dX4_calibrate_255 (q := 256) rfl 6 rfl ?_
                          refine j_aload_n X dX4_calibrate_256 (q := 257) rfl 5 rfl ?_
                          refine j_get X (v := .ref (am 4)) fl_X4_7 hMw_37.obj rfl dX4_calibrate_257 (q := 260) rfl ?_
                          refine j_iload_n X dX4_calibrate_260 (q := 261) rfl 6 rfl ?_
                          refine jm_iald X hMw_37 4 (by decide) rfl (by omega) (by show _ < (12 : Int); omega) dX4_calibrate_261 (q := 262) rfl ?_
                          rw [up_f (by decide), up_f (by decide), o4 4 z (by decide)]
                          refine jm_iast X hMw_37 9 (by decide) rfl (by omega) (by show _ < (12 : Int); omega) dX4_calibrate_262 (q := 263) rfl (fun w_38 hMw_38 hFw_38 => ?_)
                          refine j_aload_n X dX4_calibrate_263 (q := 264) rfl 5 rfl ?_
                          refine j_get X (v := .ref (am 10)) fl_X4_28 hMw_38.obj rfl dX4_calibrate_264 (q := 267) rfl ?_
                          refine j_iload_n X dX4_calibrate_267 (q := 268) rfl 6 rfl ?_
                          refine j_aload_n X dX4_calibrate_268 (q := 269) rfl 5 rfl ?_
                          have q1_269 : ∀ (U : St), U = T4 → U 1 0 = T 1 0 := fun U h => by rw [h]; exact o4 1 0 (by decide)
                          refine j_get X (v := .int (iI (T 1 0))) fl_X4_80 hMw_38.obj (by show some (Value.int (iI (T4 1 0))) = _; rw [o4 1 0 (by decide)]) dX4_calibrate_269 (q := 272) rfl ?_
                          refine jm_iast X hMw_38 10 (by decide) rfl (by omega) (by show _ < (12 : Int); omega) dX4_calibrate_272 (q := 273) rfl (fun w_39 hMw_39 hFw_39 => ?_)
                          refine j_aload_n X dX4_calibrate_273 (q := 274) rfl 5 rfl ?_
                          refine j_get X (v := .ref (am 11)) fl_X4_31 hMw_39.obj rfl dX4_calibrate_274 (q := 277) rfl ?_
                          refine j_iload_n X dX4_calibrate_277 (q := 278) rfl 6 rfl ?_
                          refine j_aload_n X dX4_calibrate_278 (q := 279) rfl 5 rfl ?_
                          have q1_279 : ∀ (U : St), U = T4 → U 1 0 = T 1 0 := fun U h => by rw [h]; exact o4 1 0 (by decide)
                          refine j_get X (v := .int (iI (T 1 0))) fl_X4_80 hMw_39.obj (by show some (Value.int (iI (T4 1 0))) = _; rw [o4 1 0 (by decide)]) dX4_calibrate_279 (q := 282) rfl ?_
                          refine j_aload_n X dX4_calibrate_282 (q := 283) rfl 5 rfl ?_
                          refine j_get X (v := .ref (am 7)) fl_X4_19 hMw_39.obj rfl dX4_calibrate_283 (q := 286) rfl ?_
                          refine j_iload_n X dX4_calibrate_286 (q := 287) rfl 6 rfl ?_
                          refine jm_iald X hMw_39 7 (by decide) rfl (by omega) (by show _ < (12 : Int); omega) dX4_calibrate_287 (q := 288) rfl ?_
                          rw [up_f (by decide), up_f (by decide), up_f (by decide), up_f (by decide)]
                          refine j_iadd X dX4_calibrate_288 (q := 289) rfl ?_
                          refine jm_iast X hMw_39 11 (by decide) rfl (by omega) (by show _ < (12 : Int); omega) dX4_calibrate_289 (q := 290) rfl (fun w_40 hMw_40 hFw_40 => ?_)
                          refine j_aload_n X dX4_calibrate_290 (q := 291) rfl 5 rfl ?_
                          refine j_get X (v := .ref (am 12)) fl_X4_34 hMw_40.obj rfl dX4_calibrate_291 (q := 294) rfl ?_
                          refine j_iload_n X dX4_calibrate_294 (q := 295) rfl 6 rfl ?_
                          refine j_iload_n X dX4_calibrate_295 (q := 296) rfl 8 rfl ?_
                          refine jm_iast X hMw_40 12 (by decide) rfl (by omega) (by show _ < (12 : Int); omega) dX4_calibrate_296 (q := 297) rfl (fun w_41 hMw_41 hFw_41 => ?_)
                          refine j_aload_n X dX4_calibrate_297 (q := 298) rfl 5 rfl ?_
                          refine j_get X (v := .ref (am 13)) fl_X4_37 hMw_41.obj rfl dX4_calibrate_298 (q := 301) rfl ?_
                          refine j_iload_n X dX4_calibrate_301 (q := 302) rfl 6 rfl ?_
                          refine j_iconst X (a := 0) dX4_calibrate_302 (q := 303) rfl ?_
                          refine jm_zast X hMw_41 13 (by decide) rfl (by omega) (by show _ < (12 : Int); omega) (Or.inl rfl) dX4_calibrate_303 (q := 304) rfl (fun w_42 hMw_42 hFw_42 => ?_)
                          refine j_iload X dX4_calibrate_304 (q := 306) rfl 2 rfl ?_
                          exact j_iret X rfl dX4_calibrate_306 (⟨⟨b, ⟨hb, hBB⟩, by rw [hx, if_pos rfl], by rw [hx, if_pos rfl, kmS, ← hT4]; exact hMw_42⟩, (((((((hF4).tr hFw_36).tr hFw_37).tr hFw_38).tr hFw_39).tr hFw_40).tr hFw_41).tr hFw_42⟩) (by decide) (by decide)
                        · skip
                          refine j_aload_n X dX4_calibrate_207 (q := 208) rfl 5 rfl ?_
                          refine j_iload_n X dX4_calibrate_208 (q := 209) rfl 6 rfl ?_
                          refine j_aload_n X dX4_calibrate_209 (q := 210) rfl 5 rfl ?_
                          refine j_get X (v := .int (iI (T 1 0))) fl_X4_80 hM6.obj (by show some (Value.int (iI (km2 T b n nm z x 1 0))) = _; rw [o2 1 0 (by decide)]) dX4_calibrate_210 (q := 213) rfl ?_
                          refine j_aload_n X dX4_calibrate_213 (q := 214) rfl 5 rfl ?_
                          refine j_get X (v := .ref (am 10)) fl_X4_28 hM6.obj rfl dX4_calibrate_214 (q := 217) rfl ?_
                          refine j_iload_n X dX4_calibrate_217 (q := 218) rfl 6 rfl ?_
                          refine jm_iald X hM6 10 (by decide) rfl (by omega) (by show _ < (12 : Int); omega) dX4_calibrate_218 (q := 219) rfl ?_
                          rw [o2 10 z (by decide)]
                          refine j_isub X dX4_calibrate_219 (q := 220) rfl ?_
                          refine j_iload_n X dX4_calibrate_220 (q := 221) rfl 7 rfl ?_
                          refine j_aload_n X dX4_calibrate_221 (q := 222) rfl 5 rfl ?_
                          refine j_get X (v := .ref (am 12)) fl_X4_34 hM6.obj rfl dX4_calibrate_222 (q := 225) rfl ?_
                          refine j_iload_n X dX4_calibrate_225 (q := 226) rfl 6 rfl ?_
                          refine jm_iald X hM6 12 (by decide) rfl (by omega) (by show _ < (12 : Int); omega) dX4_calibrate_226 (q := 227) rfl ?_
                          rw [o2 12 z (by decide)]
                          refine j_isub X dX4_calibrate_227 (q := 228) rfl ?_
                          refine j_callV X (As := [.int (iI (z)), .int (iI ((T 1 0) - (T 10 z))), .int (iI (x - (T 12 z)))]) (st := []) hM6.obj rfl (c_X4_laysPoint hlt hM6 z (T 1 0 - T 10 z) (x - T 12 z) (by omega) (by rw [o2 15 z (by decide)]; omega)) sv_X4_114 (by decide) rfl (by first | decide | exact Nat.le_of_ble_eq_true rfl | simp [cat_rf, cat_i, cat_l, cat_r]) dX4_calibrate_228 (by decide) (fun _ _ h => h.elim) ?_
                          rintro v9 w9 ⟨rfl, hM5, hF5⟩
                          refine j_st (st := []) ?_
                          have hK4 : km4 T b n nm z x = lpS (km2 T b n nm z x) z (T 1 0 - T 10 z) (x - T 12 z) := by rw [km4, if_pos k8, km3, if_pos (by omega)]
                          have hM4 := hM5
                          rw [← hK4] at hM4
                          have hF4 := hF6.tr hF5
                          have o4 : ∀ (g : Nat) (j : Int), (g ≠ 13 ∧ g ≠ 14 ∧ g ≠ 21) ∧ g ≠ 7 ∧ (g ≠ 15 ∧ g ≠ 16 ∧ g ≠ 17) → km4 T b n nm z x g j = T g j := fun g j h => km4_o h
                          obtain ⟨T4, hT4⟩ : ∃ T4, T4 = km4 T b n nm z x := ⟨_, rfl⟩
                          rw [← hT4] at hM4 o4
                          refine j_aload_n X dX4_calibrate_231 (q := 232) rfl 5 rfl ?_
                          refine j_dup X (by first | rfl | exact cat_rf _) dX4_calibrate_232 (q := 233) rfl ?_
                          refine j_get X (v := .int (iI (T 3 0))) fl_X4_118 hM4.obj (by show some (Value.int (iI (T4 3 0))) = _; rw [o4 3 0 (by decide)]) dX4_calibrate_233 (q := 236) rfl ?_
                          refine j_iconst X (a := 1) dX4_calibrate_236 (q := 237) rfl ?_
                          refine j_iadd X dX4_calibrate_237 (q := 238) rfl ?_
                          refine jm_put3 X fp_X4_118 hM4 dX4_calibrate_238 (q := 241) rfl (fun w_43 hMw_43 hFw_43 => ?_)
                          refine j_aload_n X dX4_calibrate_241 (q := 242) rfl 5 rfl ?_
                          refine j_get X (v := .ref (am 8)) fl_X4_22 hMw_43.obj rfl dX4_calibrate_242 (q := 245) rfl ?_
                          refine j_iload_n X dX4_calibrate_245 (q := 246) rfl 6 rfl ?_
                          refine j_aload_n X dX4_calibrate_246 (q := 247) rfl 5 rfl ?_
                          refine j_get X (v := .int (iI (T 3 0 + 1))) fl_X4_118 hMw_43.obj rfl dX4_calibrate_247 (q := 250) rfl ?_
                          refine jm_iast X hMw_43 8 (by decide) rfl (by omega) (by show _ < (12 : Int); omega) dX4_calibrate_250 (q := 251) rfl (fun w_44 hMw_44 hFw_44 => ?_)
                          refine j_aload_n X dX4_calibrate_251 (q := 252) rfl 5 rfl ?_
                          refine j_get X (v := .ref (am 9)) fl_X4_25 hMw_44.obj rfl dX4_calibrate_252 (q := 255) rfl ?_
                          refine j_iload_n X dX4_calibrate_255 (q := 256) rfl 6 rfl ?_
                          refine j_aload_n X dX4_calibrate_256 (q := 257) rfl 5 rfl ?_
                          refine j_get X (v := .ref (am 4)) fl_X4_7 hMw_44.obj rfl dX4_calibrate_257 (q := 260) rfl ?_
                          refine j_iload_n X dX4_calibrate_260 (q := 261) rfl 6 rfl ?_
                          refine jm_iald X hMw_44 4 (by decide) rfl (by omega) (by show _ < (12 : Int); omega) dX4_calibrate_261 (q := 262) rfl ?_
                          rw [up_f (by decide), up_f (by decide), o4 4 z (by decide)]
                          refine jm_iast X hMw_44 9 (by decide) rfl (by omega) (by show _ < (12 : Int); omega) dX4_calibrate_262 (q := 263) rfl (fun w_45 hMw_45 hFw_45 => ?_)
                          refine j_aload_n X dX4_calibrate_263 (q := 264) rfl 5 rfl ?_
                          refine j_get X (v := .ref (am 10)) fl_X4_28 hMw_45.obj rfl dX4_calibrate_264 (q := 267) rfl ?_
                          refine j_iload_n X dX4_calibrate_267 (q := 268) rfl 6 rfl ?_
                          refine j_aload_n X dX4_calibrate_268 (q := 269) rfl 5 rfl ?_
                          have q1_269 : ∀ (U : St), U = T4 → U 1 0 = T 1 0 := fun U h => by rw [h]; exact o4 1 0 (by decide)
                          refine j_get X (v := .int (iI (T 1 0))) fl_X4_80 hMw_45.obj (by show some (Value.int (iI (T4 1 0))) = _; rw [o4 1 0 (by decide)]) dX4_calibrate_269 (q := 272) rfl ?_
                          refine jm_iast X hMw_45 10 (by decide) rfl (by omega) (by show _ < (12 : Int); omega) dX4_calibrate_272 (q := 273) rfl (fun w_46 hMw_46 hFw_46 => ?_)
                          refine j_aload_n X dX4_calibrate_273 (q := 274) rfl 5 rfl ?_
                          refine j_get X (v := .ref (am 11)) fl_X4_31 hMw_46.obj rfl dX4_calibrate_274 (q := 277) rfl ?_
                          refine j_iload_n X dX4_calibrate_277 (q := 278) rfl 6 rfl ?_
                          refine j_aload_n X dX4_calibrate_278 (q := 279) rfl 5 rfl ?_
                          have q1_279 : ∀ (U : St), U = T4 → U 1 0 = T 1 0 := fun U h => by rw [h]; exact o4 1 0 (by decide)
                          refine j_get X (v := .int (iI (T 1 0))) fl_X4_80 hMw_46.obj (by show some (Value.int (iI (T4 1 0))) = _; rw [o4 1 0 (by decide)]) dX4_calibrate_279 (q := 282) rfl ?_
                          refine j_aload_n X dX4_calibrate_282 (q := 283) rfl 5 rfl ?_
                          refine j_get X (v := .ref (am 7)) fl_X4_19 hMw_46.obj rfl dX4_calibrate_283 (q := 286) rfl ?_
                          refine j_iload_n X dX4_calibrate_286 (q := 287) rfl 6 rfl ?_
                          refine jm_iald X hMw_46 7 (by decide) rfl (by omega) (by show _ < (12 : Int); omega) dX4_calibrate_287 (q := 288) rfl ?_
                          rw [up_f (by decide), up_f (by decide), up_f (by decide), up_f (by decide)]
                          refine j_iadd X dX4_calibrate_288 (q := 289) rfl ?_
                          refine jm_iast X hMw_46 11 (by decide) rfl (by omega) (by show _ < (12 : Int); omega) dX4_calibrate_289 (q := 290) rfl (fun w_47 hMw_47 hFw_47 => ?_)
                          refine j_aload_n X dX4_calibrate_290 (q := 291) rfl 5 rfl ?_
                          refine j_get X (v := .ref (am 12)) fl_X4_34 hMw_47.obj rfl dX4_calibrate_291 (q := 294) rfl ?_
                          refine j_iload_n X dX4_calibrate_294 (q := 295) rfl 6 rfl ?_
                          refine j_iload_n X dX4_calibrate_295 (q := 296) rfl 8 rfl ?_
                          refine jm_iast X hMw_47 12 (by decide) rfl (by omega) (by show _ < (12 : Int); omega) dX4_calibrate_296 (q := 297) rfl (fun w_48 hMw_48 hFw_48 => ?_)
                          refine j_aload_n X dX4_calibrate_297 (q := 298) rfl 5 rfl ?_
                          refine j_get X (v := .ref (am 13)) fl_X4_37 hMw_48.obj rfl dX4_calibrate_298 (q := 301) rfl ?_
                          refine j_iload_n X dX4_calibrate_301 (q := 302) rfl 6 rfl ?_
                          refine j_iconst X (a := 0) dX4_calibrate_302 (q := 303) rfl ?_
                          refine jm_zast X hMw_48 13 (by decide) rfl (by omega) (by show _ < (12 : Int); omega) (Or.inl rfl) dX4_calibrate_303 (q := 304) rfl (fun w_49 hMw_49 hFw_49 => ?_)
                          refine j_iload X dX4_calibrate_304 (q := 306) rfl 2 rfl ?_
                          exact j_iret X rfl dX4_calibrate_306 (⟨⟨b, ⟨hb, hBB⟩, by rw [hx, if_pos rfl], by rw [hx, if_pos rfl, kmS, ← hT4]; exact hMw_49⟩, (((((((hF4).tr hFw_43).tr hFw_44).tr hFw_45).tr hFw_46).tr hFw_47).tr hFw_48).tr hFw_49⟩) (by decide) (by decide)
                      · skip
                        refine j_sipush X (a := 999) (by decide +kernel) dX4_calibrate_171 (q := 174) rfl ?_
                        refine j_goto X (tgt := 184) dX4_calibrate_174 (by decide) ?_
                        refine j_istore X (i := 7) dX4_calibrate_184 (by decide) (q := 186) rfl (lv' := [(7, .int (iI (999))), (8, .int (iI (0))), (6, .int (iI (n0))), (5, .int (iI (1))), (4, .int (iI (tf (0 ≤ z ∧ z < n)))), (0, .ref (am 0)), (1, .int (iI (z))), (2, .int (iI (x))), (3, .int (iI (lf)))]) (by first | rfl | simp [cat_rf, cat_i, cat_l, cat_r]) ?_
                        obtain ⟨iv, hiv⟩ : ∃ iv, iv = niv (T 5 z) (iabs x) (T 7 z) := ⟨_, rfl⟩
                        have hniv : 999 = iv := by
                          rw [hiv]
                          rw [niv, if_neg (by omega), if_pos (by omega), if_neg (by omega)]
                        have hnb : 1 ≤ niv (T 5 z) (iabs x) (T 7 z) ∧ niv (T 5 z) (iabs x) (T 7 z) ≤ 999 := niv_b (by omega)
                        obtain ⟨b, hb, hB⟩ := rc_set hI k1
                        have hR6 : n0 = kmR T b nm z x := by rw [hn0, kmR, if_neg (by omega)]
                        have hK1 : km1 T b n nm z x = T := by rw [km1, if_neg (by omega)]
                        have hF7 := hF9
                        have hM7 : MW base ca am 0 (km1 T b n nm z x) w9 := by rw [hK1]; exact hM0
                        have hBB := fun (_ : 0 ≤ z ∧ z < n) (_ : 0 < T 8 z) => hB
                        refine j_lc (lv' := [(7, .int (iI (iv))), (8, .int (iI (0))), (6, .int (iI (kmR T b nm z x))), (5, .int (iI (1))), (4, .int (iI (tf (0 ≤ z ∧ z < n)))), (0, .ref (am 0)), (1, .int (iI (z))), (2, .int (iI (x))), (3, .int (iI (lf)))]) (by rw [hniv, hR6]) ?_
                        refine j_aload_n X dX4_calibrate_186 (q := 187) rfl 5 rfl ?_
                        refine j_get X (v := .ref (am 7)) fl_X4_19 hM7.obj rfl dX4_calibrate_187 (q := 190) rfl ?_
                        refine j_iload_n X dX4_calibrate_190 (q := 191) rfl 6 rfl ?_
                        refine j_iload X dX4_calibrate_191 (q := 193) rfl 0 rfl ?_
                        refine jm_iast X hM7 7 (by decide) rfl (by omega) (by show _ < (12 : Int); omega) dX4_calibrate_193 (q := 194) rfl (fun w_50 hMw_50 hFw_50 => ?_)
                        have hM6 : MW base ca am 0 (km2 T b n nm z x) w_50 := by rw [km2, ← hiv]; exact hMw_50
                        have hF6 := hF7.tr hFw_50
                        have o2 : ∀ (g : Nat) (j : Int), (g ≠ 13 ∧ g ≠ 14 ∧ g ≠ 21) ∧ g ≠ 7 → km2 T b n nm z x g j = T g j := fun g j h => by rw [km2, up_f h.2, km1_o h.1]
                        refine j_aload_n X dX4_calibrate_194 (q := 195) rfl 5 rfl ?_
                        refine j_get X (v := .int (iI (T 1 0))) fl_X4_80 hM6.obj (by show some (Value.int (iI (km2 T b n nm z x 1 0))) = _; rw [o2 1 0 (by decide)]) dX4_calibrate_195 (q := 198) rfl ?_
                        refine j_aload_n X dX4_calibrate_198 (q := 199) rfl 5 rfl ?_
                        refine j_get X (v := .ref (am 10)) fl_X4_28 hM6.obj rfl dX4_calibrate_199 (q := 202) rfl ?_
                        refine j_iload_n X dX4_calibrate_202 (q := 203) rfl 6 rfl ?_
                        refine jm_iald X hM6 10 (by decide) rfl (by omega) (by show _ < (12 : Int); omega) dX4_calibrate_203 (q := 204) rfl ?_
                        rw [o2 10 z (by decide)]
                        refine j_icmp_le X (tgt := 231) dX4_calibrate_204 (by decide) (q := 207) rfl (by omega) (by omega) (fun c_204 => ?_) (fun c_204 => ?_)
                        · skip
                          have hK4 : km4 T b n nm z x = km2 T b n nm z x := by rw [km4, if_pos k8, km3, if_neg (by omega)]
                          have hM4 := hM6
                          rw [← hK4] at hM4
                          have hF4 := hF6
                          have o4 : ∀ (g : Nat) (j : Int), (g ≠ 13 ∧ g ≠ 14 ∧ g ≠ 21) ∧ g ≠ 7 ∧ (g ≠ 15 ∧ g ≠ 16 ∧ g ≠ 17) → km4 T b n nm z x g j = T g j := fun g j h => km4_o h
                          obtain ⟨T4, hT4⟩ : ∃ T4, T4 = km4 T b n nm z x := ⟨_, rfl⟩
                          rw [← hT4] at hM4 o4
                          refine j_aload_n X dX4_calibrate_231 (q := 232) rfl 5 rfl ?_
                          refine j_dup X (by first | rfl | exact cat_rf _) dX4_calibrate_232 (q := 233) rfl ?_
                          refine j_get X (v := .int (iI (T 3 0))) fl_X4_118 hM4.obj (by show some (Value.int (iI (T4 3 0))) = _; rw [o4 3 0 (by decide)]) dX4_calibrate_233 (q := 236) rfl ?_
                          refine j_iconst X (a := 1) dX4_calibrate_236 (q := 237) rfl ?_
                          refine j_iadd X dX4_calibrate_237 (q := 238) rfl ?_
                          refine jm_put3 X fp_X4_118 hM4 dX4_calibrate_238 (q := 241) rfl (fun w_51 hMw_51 hFw_51 => ?_)
                          refine j_aload_n X dX4_calibrate_241 (q := 242) rfl 5 rfl ?_
                          refine j_get X (v := .ref (am 8)) fl_X4_22 hMw_51.obj rfl dX4_calibrate_242 (q := 245) rfl ?_
                          refine j_iload_n X dX4_calibrate_245 (q := 246) rfl 6 rfl ?_
                          refine j_aload_n X dX4_calibrate_246 (q := 247) rfl 5 rfl ?_
                          refine j_get X (v := .int (iI (T 3 0 + 1))) fl_X4_118 hMw_51.obj rfl dX4_calibrate_247 (q := 250) rfl ?_
                          refine jm_iast X hMw_51 8 (by decide) rfl (by omega) (by show _ < (12 : Int); omega) dX4_calibrate_250 (q := 251) rfl (fun w_52 hMw_52 hFw_52 => ?_)
                          refine j_aload_n X dX4_calibrate_251 (q := 252) rfl 5 rfl ?_
                          refine j_get X (v := .ref (am 9)) fl_X4_25 hMw_52.obj rfl dX4_calibrate_252 (q := 255) rfl ?_
                          refine j_iload_n X dX4_calibrate_255 (q := 256) rfl 6 rfl ?_
                          refine j_aload_n X dX4_calibrate_256 (q := 257) rfl 5 rfl ?_
                          refine j_get X (v := .ref (am 4)) fl_X4_7 hMw_52.obj rfl dX4_calibrate_257 (q := 260) rfl ?_
                          refine j_iload_n X dX4_calibrate_260 (q := 261) rfl 6 rfl ?_
                          refine jm_iald X hMw_52 4 (by decide) rfl (by omega) (by show _ < (12 : Int); omega) dX4_calibrate_261 (q := 262) rfl ?_
                          rw [up_f (by decide), up_f (by decide), o4 4 z (by decide)]
                          refine jm_iast X hMw_52 9 (by decide) rfl (by omega) (by show _ < (12 : Int); omega) dX4_calibrate_262 (q := 263) rfl (fun w_53 hMw_53 hFw_53 => ?_)
                          refine j_aload_n X dX4_calibrate_263 (q := 264) rfl 5 rfl ?_
                          refine j_get X (v := .ref (am 10)) fl_X4_28 hMw_53.obj rfl dX4_calibrate_264 (q := 267) rfl ?_
                          refine j_iload_n X dX4_calibrate_267 (q := 268) rfl 6 rfl ?_
                          refine j_aload_n X dX4_calibrate_268 (q := 269) rfl 5 rfl ?_
                          have q1_269 : ∀ (U : St), U = T4 → U 1 0 = T 1 0 := fun U h => by rw [h]; exact o4 1 0 (by decide)
                          refine j_get X (v := .int (iI (T 1 0))) fl_X4_80 hMw_53.obj (by show some (Value.int (iI (T4 1 0))) = _; rw [o4 1 0 (by decide)]) dX4_calibrate_269 (q := 272) rfl ?_
                          refine jm_iast X hMw_53 10 (by decide) rfl (by omega) (by show _ < (12 : Int); omega) dX4_calibrate_272 (q := 273) rfl (fun w_54 hMw_54 hFw_54 => ?_)
                          refine j_aload_n X dX4_calibrate_273 (q := 274) rfl 5 rfl ?_
                          refine j_get X (v := .ref (am 11)) fl_X4_31 hMw_54.obj rfl dX4_calibrate_274 (q := 277) rfl ?_
                          refine j_iload_n X dX4_calibrate_277 (q := 278) rfl 6 rfl ?_
                          refine j_aload_n X dX4_calibrate_278 (q := 279) rfl 5 rfl ?_
                          have q1_279 : ∀ (U : St), U = T4 → U 1 0 = T 1 0 := fun U h => by rw [h]; exact o4 1 0 (by decide)
                          refine j_get X (v := .int (iI (T 1 0))) fl_X4_80 hMw_54.obj (by show some (Value.int (iI (T4 1 0))) = _; rw [o4 1 0 (by decide)]) dX4_calibrate_279 (q := 282) rfl ?_
                          refine j_aload_n X dX4_calibrate_282 (q := 283) rfl 5 rfl ?_
                          refine j_get X (v := .ref (am 7)) fl_X4_19 hMw_54.obj rfl dX4_calibrate_283 (q := 286) rfl ?_
                          refine j_iload_n X dX4_calibrate_286 (q := 287) rfl 6 rfl ?_
                          refine jm_iald X hMw_54 7 (by decide) rfl (by omega) (by show _ < (12 : Int); omega) dX4_calibrate_287 (q := 288) rfl ?_
                          rw [up_f (by decide), up_f (by decide), up_f (by decide), up_f (by decide)]
                          refine j_iadd X dX4_calibrate_288 (q := 289) rfl ?_
                          refine jm_iast X hMw_54 11 (by decide) rfl (by omega) (by show _ < (12 : Int); omega) dX4_calibrate_289 (q := 290) rfl (fun w_55 hMw_55 hFw_55 => ?_)
                          refine j_aload_n X dX4_calibrate_290 (q := 291) rfl 5 rfl ?_
                          refine j_get X (v := .ref (am 12)) fl_X4_34 hMw_55.obj rfl dX4_calibrate_291 (q := 294) rfl ?_
                          refine j_iload_n X dX4_calibrate_294 (q := 295) rfl 6 rfl ?_
                          refine j_iload_n X dX4_calibrate_295 (q := 296) rfl 8 rfl ?_
                          refine jm_iast X hMw_55 12 (by decide) rfl (by omega) (by show _ < (12 : Int); omega) dX4_calibrate_296 (q := 297) rfl (fun w_56 hMw_56 hFw_56 => ?_)
                          refine j_aload_n X dX4_calibrate_297 (q := 298) rfl 5 rfl ?_
                          refine j_get X (v := .ref (am 13)) fl_X4_37 hMw_56.obj rfl dX4_calibrate_298 (q := 301) rfl ?_
                          refine j_iload_n X dX4_calibrate_301 (q := 302) rfl 6 rfl ?_
                          refine j_iconst X (a := 0) dX4_calibrate_302 (q := 303) rfl ?_
                          refine jm_zast X hMw_56 13 (by decide) rfl (by omega) (by show _ < (12 : Int); omega) (Or.inl rfl) dX4_calibrate_303 (q := 304) rfl (fun w_57 hMw_57 hFw_57 => ?_)
                          refine j_iload X dX4_calibrate_304 (q := 306) rfl 2 rfl ?_
                          exact j_iret X rfl dX4_calibrate_306 (⟨⟨b, ⟨hb, hBB⟩, by rw [hx, if_pos rfl], by rw [hx, if_pos rfl, kmS, ← hT4]; exact hMw_57⟩, (((((((hF4).tr hFw_51).tr hFw_52).tr hFw_53).tr hFw_54).tr hFw_55).tr hFw_56).tr hFw_57⟩) (by decide) (by decide)
                        · skip
                          refine j_aload_n X dX4_calibrate_207 (q := 208) rfl 5 rfl ?_
                          refine j_iload_n X dX4_calibrate_208 (q := 209) rfl 6 rfl ?_
                          refine j_aload_n X dX4_calibrate_209 (q := 210) rfl 5 rfl ?_
                          refine j_get X (v := .int (iI (T 1 0))) fl_X4_80 hM6.obj (by show some (Value.int (iI (km2 T b n nm z x 1 0))) = _; rw [o2 1 0 (by decide)]) dX4_calibrate_210 (q := 213) rfl ?_
                          refine j_aload_n X dX4_calibrate_213 (q := 214) rfl 5 rfl ?_
                          refine j_get X (v := .ref (am 10)) fl_X4_28 hM6.obj rfl dX4_calibrate_214 (q := 217) rfl ?_
                          refine j_iload_n X dX4_calibrate_217 (q := 218) rfl 6 rfl ?_
                          refine jm_iald X hM6 10 (by decide) rfl (by omega) (by show _ < (12 : Int); omega) dX4_calibrate_218 (q := 219) rfl ?_
                          rw [o2 10 z (by decide)]
                          refine j_isub X dX4_calibrate_219 (q := 220) rfl ?_
                          refine j_iload_n X dX4_calibrate_220 (q := 221) rfl 7 rfl ?_
                          refine j_aload_n X dX4_calibrate_221 (q := 222) rfl 5 rfl ?_
                          refine j_get X (v := .ref (am 12)) fl_X4_34 hM6.obj rfl dX4_calibrate_222 (q := 225) rfl ?_
                          refine j_iload_n X dX4_calibrate_225 (q := 226) rfl 6 rfl ?_
                          refine jm_iald X hM6 12 (by decide) rfl (by omega) (by show _ < (12 : Int); omega) dX4_calibrate_226 (q := 227) rfl ?_
                          rw [o2 12 z (by decide)]
                          refine j_isub X dX4_calibrate_227 (q := 228) rfl ?_
                          refine j_callV X (As := [.int (iI (z)), .int (iI ((T 1 0) - (T 10 z))), .int (iI (x - (T 12 z)))]) (st := []) hM6.obj rfl (c_X4_laysPoint hlt hM6 z (T 1 0 - T 10 z) (x - T 12 z) (by omega) (by rw [o2 15 z (by decide)]; omega)) sv_X4_114 (by decide) rfl (by first | decide | exact Nat.le_of_ble_eq_true rfl | simp [cat_rf, cat_i, cat_l, cat_r]) dX4_calibrate_228 (by decide) (fun _ _ h => h.elim) ?_
                          rintro v9 w9 ⟨rfl, hM5, hF5⟩
                          refine j_st (st := []) ?_
                          have hK4 : km4 T b n nm z x = lpS (km2 T b n nm z x) z (T 1 0 - T 10 z) (x - T 12 z) := by rw [km4, if_pos k8, km3, if_pos (by omega)]
                          have hM4 := hM5
                          rw [← hK4] at hM4
                          have hF4 := hF6.tr hF5
                          have o4 : ∀ (g : Nat) (j : Int), (g ≠ 13 ∧ g ≠ 14 ∧ g ≠ 21) ∧ g ≠ 7 ∧ (g ≠ 15 ∧ g ≠ 16 ∧ g ≠ 17) → km4 T b n nm z x g j = T g j := fun g j h => km4_o h
                          obtain ⟨T4, hT4⟩ : ∃ T4, T4 = km4 T b n nm z x := ⟨_, rfl⟩
                          rw [← hT4] at hM4 o4
                          refine j_aload_n X dX4_calibrate_231 (q := 232) rfl 5 rfl ?_
                          refine j_dup X (by first | rfl | exact cat_rf _) dX4_calibrate_232 (q := 233) rfl ?_
                          refine j_get X (v := .int (iI (T 3 0))) fl_X4_118 hM4.obj (by show some (Value.int (iI (T4 3 0))) = _; rw [o4 3 0 (by decide)]) dX4_calibrate_233 (q := 236) rfl ?_
                          refine j_iconst X (a := 1) dX4_calibrate_236 (q := 237) rfl ?_
                          refine j_iadd X dX4_calibrate_237 (q := 238) rfl ?_
                          refine jm_put3 X fp_X4_118 hM4 dX4_calibrate_238 (q := 241) rfl (fun w_58 hMw_58 hFw_58 => ?_)
                          refine j_aload_n X dX4_calibrate_241 (q := 242) rfl 5 rfl ?_
                          refine j_get X (v := .ref (am 8)) fl_X4_22 hMw_58.obj rfl dX4_calibrate_242 (q := 245) rfl ?_
                          refine j_iload_n X dX4_calibrate_245 (q := 246) rfl 6 rfl ?_
                          refine j_aload_n X dX4_calibrate_246 (q := 247) rfl 5 rfl ?_
                          refine j_get X (v := .int (iI (T 3 0 + 1))) fl_X4_118 hMw_58.obj rfl dX4_calibrate_247 (q := 250) rfl ?_
                          refine jm_iast X hMw_58 8 (by decide) rfl (by omega) (by show _ < (12 : Int); omega) dX4_calibrate_250 (q := 251) rfl (fun w_59 hMw_59 hFw_59 => ?_)
                          refine j_aload_n X dX4_calibrate_251 (q := 252) rfl 5 rfl ?_
                          refine j_get X (v := .ref (am 9)) fl_X4_25 hMw_59.obj rfl dX4_calibrate_252 (q := 255) rfl ?_
                          refine j_iload_n X dX4_calibrate_255 (q := 256) rfl 6 rfl ?_
                          refine j_aload_n X dX4_calibrate_256 (q := 257) rfl 5 rfl ?_
                          refine j_get X (v := .ref (am 4)) fl_X4_7 hMw_59.obj rfl dX4_calibrate_257 (q := 260) rfl ?_
                          refine j_iload_n X dX4_calibrate_260 (q := 261) rfl 6 rfl ?_
                          refine jm_iald X hMw_59 4 (by decide) rfl (by omega) (by show _ < (12 : Int); omega) dX4_calibrate_261 (q := 262) rfl ?_
                          rw [up_f (by decide), up_f (by decide), o4 4 z (by decide)]
                          refine jm_iast X hMw_59 9 (by decide) rfl (by omega) (by show _ < (12 : Int); omega) dX4_calibrate_262 (q := 263) rfl (fun w_60 hMw_60 hFw_60 => ?_)
                          refine j_aload_n X dX4_calibrate_263 (q := 264) rfl 5 rfl ?_
                          refine j_get X (v := .ref (am 10)) fl_X4_28 hMw_60.obj rfl dX4_calibrate_264 (q := 267) rfl ?_
                          refine j_iload_n X dX4_calibrate_267 (q := 268) rfl 6 rfl ?_
                          refine j_aload_n X dX4_calibrate_268 (q := 269) rfl 5 rfl ?_
                          have q1_269 : ∀ (U : St), U = T4 → U 1 0 = T 1 0 := fun U h => by rw [h]; exact o4 1 0 (by decide)
                          refine j_get X (v := .int (iI (T 1 0))) fl_X4_80 hMw_60.obj (by show some (Value.int (iI (T4 1 0))) = _; rw [o4 1 0 (by decide)]) dX4_calibrate_269 (q := 272) rfl ?_
                          refine jm_iast X hMw_60 10 (by decide) rfl (by omega) (by show _ < (12 : Int); omega) dX4_calibrate_272 (q := 273) rfl (fun w_61 hMw_61 hFw_61 => ?_)
                          refine j_aload_n X dX4_calibrate_273 (q := 274) rfl 5 rfl ?_
                          refine j_get X (v := .ref (am 11)) fl_X4_31 hMw_61.obj rfl dX4_calibrate_274 (q := 277) rfl ?_
                          refine j_iload_n X dX4_calibrate_277 (q := 278) rfl 6 rfl ?_
                          refine j_aload_n X dX4_calibrate_278 (q := 279) rfl 5 rfl ?_
                          have q1_279 : ∀ (U : St), U = T4 → U 1 0 = T 1 0 := fun U h => by rw [h]; exact o4 1 0 (by decide)
                          refine j_get X (v := .int (iI (T 1 0))) fl_X4_80 hMw_61.obj (by show some (Value.int (iI (T4 1 0))) = _; rw [o4 1 0 (by decide)]) dX4_calibrate_279 (q := 282) rfl ?_
                          refine j_aload_n X dX4_calibrate_282 (q := 283) rfl 5 rfl ?_
                          refine j_get X (v := .ref (am 7)) fl_X4_19 hMw_61.obj rfl dX4_calibrate_283 (q := 286) rfl ?_
                          refine j_iload_n X dX4_calibrate_286 (q := 287) rfl 6 rfl ?_
                          refine jm_iald X hMw_61 7 (by decide) rfl (by omega) (by show _ < (12 : Int); omega) dX4_calibrate_287 (q := 288) rfl ?_
                          rw [up_f (by decide), up_f (by decide), up_f (by decide), up_f (by decide)]
                          refine j_iadd X dX4_calibrate_288 (q := 289) rfl ?_
                          refine jm_iast X hMw_61 11 (by decide) rfl (by omega) (by show _ < (12 : Int); omega) dX4_calibrate_289 (q := 290) rfl (fun w_62 hMw_62 hFw_62 => ?_)
                          refine j_aload_n X dX4_calibrate_290 (q := 291) rfl 5 rfl ?_
                          refine j_get X (v := .ref (am 12)) fl_X4_34 hMw_62.obj rfl dX4_calibrate_291 (q := 294) rfl ?_
                          refine j_iload_n X dX4_calibrate_294 (q := 295) rfl 6 rfl ?_
                          refine j_iload_n X dX4_calibrate_295 (q := 296) rfl 8 rfl ?_
                          refine jm_iast X hMw_62 12 (by decide) rfl (by omega) (by show _ < (12 : Int); omega) dX4_calibrate_296 (q := 297) rfl (fun w_63 hMw_63 hFw_63 => ?_)
                          refine j_aload_n X dX4_calibrate_297 (q := 298) rfl 5 rfl ?_
                          refine j_get X (v := .ref (am 13)) fl_X4_37 hMw_63.obj rfl dX4_calibrate_298 (q := 301) rfl ?_
                          refine j_iload_n X dX4_calibrate_301 (q := 302) rfl 6 rfl ?_
                          refine j_iconst X (a := 0) dX4_calibrate_302 (q := 303) rfl ?_
                          refine jm_zast X hMw_63 13 (by decide) rfl (by omega) (by show _ < (12 : Int); omega) (Or.inl rfl) dX4_calibrate_303 (q := 304) rfl (fun w_64 hMw_64 hFw_64 => ?_)
                          refine j_iload X dX4_calibrate_304 (q := 306) rfl 2 rfl ?_
                          exact j_iret X rfl dX4_calibrate_306 (⟨⟨b, ⟨hb, hBB⟩, by rw [hx, if_pos rfl], by rw [hx, if_pos rfl, kmS, ← hT4]; exact hMw_64⟩, (((((((hF4).tr hFw_58).tr hFw_59).tr hFw_60).tr hFw_61).tr hFw_62).tr hFw_63).tr hFw_64⟩) (by decide) (by decide)
                  · skip
                    exact absurd c_115 (by decide)
                · skip
                  refine j_iconst X (a := 1) dX4_calibrate_106 (q := 107) rfl ?_
                  refine j_goto X (tgt := 111) dX4_calibrate_107 (by decide) ?_
                  refine j_istore X (i := 8) dX4_calibrate_111 (by decide) (q := 113) rfl (lv' := [(8, .int (iI (1))), (7, .int (iI (T 7 z))), (6, .int (iI (n0))), (5, .int (iI (1))), (4, .int (iI (tf (0 ≤ z ∧ z < n)))), (0, .ref (am 0)), (1, .int (iI (z))), (2, .int (iI (x))), (3, .int (iI (lf)))]) (by first | rfl | simp [cat_rf, cat_i, cat_l, cat_r]) ?_
                  refine j_iload X dX4_calibrate_113 (q := 115) rfl 0 rfl ?_
                  refine j_if_eq X (tgt := 143) dX4_calibrate_115 (by decide) (q := 118) rfl (by omega) (fun c_115 => ?_) (fun c_115 => ?_)
                  · skip
                    exact absurd c_115 (by decide)
                  · skip
                    refine j_aload_n X dX4_calibrate_118 (q := 119) rfl 5 rfl ?_
                    refine j_iload_n X dX4_calibrate_119 (q := 120) rfl 6 rfl ?_
                    have h14z := h14 z k1.1 k1.2
                    refine j_callV X (As := [.int (iI (z))]) (st := []) hM0.obj rfl (c_X4_fails hlt hM0 hI z k1 h14z) sv_X4_111 (by decide) rfl (by first | decide | exact Nat.le_of_ble_eq_true rfl | simp [cat_rf, cat_i, cat_l, cat_r]) dX4_calibrate_120 (by decide) (fun _ _ h => h.elim) ?_
                    rintro v9 w9 ⟨⟨b, ⟨hb, hB⟩, rfl, hM8⟩, hF8⟩
                    refine j_st (st := [.int (iI (cnM T b nm))]) ?_
                    refine j_istore X (i := 6) dX4_calibrate_123 (by decide) (q := 125) rfl (lv' := [(6, .int (iI (cnM T b nm))), (8, .int (iI (1))), (7, .int (iI (T 7 z))), (5, .int (iI (1))), (4, .int (iI (tf (0 ≤ z ∧ z < n)))), (0, .ref (am 0)), (1, .int (iI (z))), (2, .int (iI (x))), (3, .int (iI (lf)))]) (by first | rfl | simp [cat_rf, cat_i, cat_l, cat_r]) ?_
                    refine j_iload X dX4_calibrate_125 (q := 127) rfl 2 rfl ?_
                    refine j_iconst X (a := 2) dX4_calibrate_127 (q := 128) rfl ?_
                    refine j_idiv X (by omega) (by omega) dX4_calibrate_128 (q := 129) rfl ?_
                    refine j_iconst X (a := 1) dX4_calibrate_129 (q := 130) rfl ?_
                    refine j_icmp_ge X (tgt := 137) dX4_calibrate_130 (by decide) (q := 133) rfl (by omega) (by omega) (fun c_130 => ?_) (fun c_130 => ?_)
                    · skip
                      refine j_iload X dX4_calibrate_137 (q := 139) rfl 2 rfl ?_
                      refine j_iconst X (a := 2) dX4_calibrate_139 (q := 140) rfl ?_
                      refine j_idiv X (by omega) (by omega) dX4_calibrate_140 (q := 141) rfl ?_
                      refine j_istore X (i := 7) dX4_calibrate_141 (by decide) (q := 143) rfl (lv' := [(7, .int (iI (Int.tdiv (T 7 z) (2)))), (6, .int (iI (cnM T b nm))), (8, .int (iI (1))), (5, .int (iI (1))), (4, .int (iI (tf (0 ≤ z ∧ z < n)))), (0, .ref (am 0)), (1, .int (iI (z))), (2, .int (iI (x))), (3, .int (iI (lf)))]) (by first | rfl | simp [cat_rf, cat_i, cat_l, cat_r]) ?_
                      refine j_iconst X (a := 2) dX4_calibrate_143 (q := 144) rfl ?_
                      refine j_iload_n X dX4_calibrate_144 (q := 145) rfl 7 rfl ?_
                      refine j_callS X (As := [.int (iI (x))]) (st := [.int (iI (2))])  (c_X4_unsigned hlt x (by omega)) ss_X4_108 (by decide) rfl (by first | decide | exact Nat.le_of_ble_eq_true rfl | simp [cat_rf, cat_i, cat_l, cat_r]) dX4_calibrate_145 (by decide) (fun _ _ h => h.elim) ?_
                      rintro v9 w9 ⟨rfl, rfl⟩
                      refine j_st (st := [.int (iI (iabs x)), .int (iI (2))]) ?_
                      refine j_imul X dX4_calibrate_148 (q := 149) rfl ?_
                      refine j_aload_n X dX4_calibrate_149 (q := 150) rfl 5 rfl ?_
                      refine j_get X (v := .ref (am 5)) fl_X4_13 hM8.obj rfl dX4_calibrate_150 (q := 153) rfl ?_
                      refine j_iload_n X dX4_calibrate_153 (q := 154) rfl 6 rfl ?_
                      refine jm_iald X hM8 5 (by decide) rfl (by omega) (by show _ < (12 : Int); omega) dX4_calibrate_154 (q := 155) rfl ?_
                      rw [faM_o (by decide)]
                      refine j_icmp_gt X (tgt := 186) dX4_calibrate_155 (by decide) (q := 158) rfl (by omega) (by omega) (fun c_155 => ?_) (fun c_155 => ?_)
                      · skip
                        obtain ⟨iv, hiv⟩ : ∃ iv, iv = niv (T 5 z) (iabs x) (T 7 z) := ⟨_, rfl⟩
                        have hniv : Int.tdiv (T 7 z) (2) = iv := by
                          rw [hiv]
                          rw [niv, if_pos (by omega)]; by_cases q : 1 < (T 7 z).tdiv 2; rw [if_pos q]; rw [if_neg q]; omega
                        have hnb : 1 ≤ niv (T 5 z) (iabs x) (T 7 z) ∧ niv (T 5 z) (iabs x) (T 7 z) ≤ 999 := niv_b (by omega)
                        have hR6 : cnM T b nm = kmR T b nm z x := by rw [kmR, if_pos ⟨k8, by omega⟩]
                        have hK1 : km1 T b n nm z x = faM T b z n nm := by rw [km1, if_pos (by omega)]
                        have hF7 := hF9.tr hF8
                        rw [← hK1] at hM8
                        have hM7 := hM8
                        have hBB := fun (_ : 0 ≤ z ∧ z < n) (_ : 0 < T 8 z) => hB
                        refine j_lc (lv' := [(7, .int (iI (iv))), (6, .int (iI (kmR T b nm z x))), (8, .int (iI (1))), (5, .int (iI (1))), (4, .int (iI (tf (0 ≤ z ∧ z < n)))), (0, .ref (am 0)), (1, .int (iI (z))), (2, .int (iI (x))), (3, .int (iI (lf)))]) (by rw [hniv, hR6]) ?_
                        refine j_aload_n X dX4_calibrate_186 (q := 187) rfl 5 rfl ?_
                        refine j_get X (v := .ref (am 7)) fl_X4_19 hM7.obj rfl dX4_calibrate_187 (q := 190) rfl ?_
                        refine j_iload_n X dX4_calibrate_190 (q := 191) rfl 6 rfl ?_
                        refine j_iload X dX4_calibrate_191 (q := 193) rfl 0 rfl ?_
                        refine jm_iast X hM7 7 (by decide) rfl (by omega) (by show _ < (12 : Int); omega) dX4_calibrate_193 (q := 194) rfl (fun w_65 hMw_65 hFw_65 => ?_)
                        have hM6 : MW base ca am 0 (km2 T b n nm z x) w_65 := by rw [km2, ← hiv]; exact hMw_65
                        have hF6 := hF7.tr hFw_65
                        have o2 : ∀ (g : Nat) (j : Int), (g ≠ 13 ∧ g ≠ 14 ∧ g ≠ 21) ∧ g ≠ 7 → km2 T b n nm z x g j = T g j := fun g j h => by rw [km2, up_f h.2, km1_o h.1]
                        refine j_aload_n X dX4_calibrate_194 (q := 195) rfl 5 rfl ?_
                        refine j_get X (v := .int (iI (T 1 0))) fl_X4_80 hM6.obj (by show some (Value.int (iI (km2 T b n nm z x 1 0))) = _; rw [o2 1 0 (by decide)]) dX4_calibrate_195 (q := 198) rfl ?_
                        refine j_aload_n X dX4_calibrate_198 (q := 199) rfl 5 rfl ?_
                        refine j_get X (v := .ref (am 10)) fl_X4_28 hM6.obj rfl dX4_calibrate_199 (q := 202) rfl ?_
                        refine j_iload_n X dX4_calibrate_202 (q := 203) rfl 6 rfl ?_
                        refine jm_iald X hM6 10 (by decide) rfl (by omega) (by show _ < (12 : Int); omega) dX4_calibrate_203 (q := 204) rfl ?_
                        rw [o2 10 z (by decide)]
                        refine j_icmp_le X (tgt := 231) dX4_calibrate_204 (by decide) (q := 207) rfl (by omega) (by omega) (fun c_204 => ?_) (fun c_204 => ?_)
                        · skip
                          have hK4 : km4 T b n nm z x = km2 T b n nm z x := by rw [km4, if_pos k8, km3, if_neg (by omega)]
                          have hM4 := hM6
                          rw [← hK4] at hM4
                          have hF4 := hF6
                          have o4 : ∀ (g : Nat) (j : Int), (g ≠ 13 ∧ g ≠ 14 ∧ g ≠ 21) ∧ g ≠ 7 ∧ (g ≠ 15 ∧ g ≠ 16 ∧ g ≠ 17) → km4 T b n nm z x g j = T g j := fun g j h => km4_o h
                          obtain ⟨T4, hT4⟩ : ∃ T4, T4 = km4 T b n nm z x := ⟨_, rfl⟩
                          rw [← hT4] at hM4 o4
                          refine j_aload_n X dX4_calibrate_231 (q := 232) rfl 5 rfl ?_
                          refine j_dup X (by first | rfl | exact cat_rf _) dX4_calibrate_232 (q := 233) rfl ?_
                          refine j_get X (v := .int (iI (T 3 0))) fl_X4_118 hM4.obj (by show some (Value.int (iI (T4 3 0))) = _; rw [o4 3 0 (by decide)]) dX4_calibrate_233 (q := 236) rfl ?_
                          refine j_iconst X (a := 1) dX4_calibrate_236 (q := 237) rfl ?_
                          refine j_iadd X dX4_calibrate_237 (q := 238) rfl ?_
                          refine jm_put3 X fp_X4_118 hM4 dX4_calibrate_238 (q := 241) rfl (fun w_66 hMw_66 hFw_66 => ?_)
                          refine j_aload_n X dX4_calibrate_241 (q := 242) rfl 5 rfl ?_
                          refine j_get X (v := .ref (am 8)) fl_X4_22 hMw_66.obj rfl dX4_calibrate_242 (q := 245) rfl ?_
                          refine j_iload_n X dX4_calibrate_245 (q := 246) rfl 6 rfl ?_
                          refine j_aload_n X dX4_calibrate_246 (q := 247) rfl 5 rfl ?_
                          refine j_get X (v := .int (iI (T 3 0 + 1))) fl_X4_118 hMw_66.obj rfl dX4_calibrate_247 (q := 250) rfl ?_
                          refine jm_iast X hMw_66 8 (by decide) rfl (by omega) (by show _ < (12 : Int); omega) dX4_calibrate_250 (q := 251) rfl (fun w_67 hMw_67 hFw_67 => ?_)
                          refine j_aload_n X dX4_calibrate_251 (q := 252) rfl 5 rfl ?_
                          refine j_get X (v := .ref (am 9)) fl_X4_25 hMw_67.obj rfl dX4_calibrate_252 (q := 255) rfl ?_
                          refine j_iload_n X dX4_calibrate_255 (q := 256) rfl 6 rfl ?_
                          refine j_aload_n X dX4_calibrate_256 (q := 257) rfl 5 rfl ?_
                          refine j_get X (v := .ref (am 4)) fl_X4_7 hMw_67.obj rfl dX4_calibrate_257 (q := 260) rfl ?_
                          refine j_iload_n X dX4_calibrate_260 (q := 261) rfl 6 rfl ?_
                          refine jm_iald X hMw_67 4 (by decide) rfl (by omega) (by show _ < (12 : Int); omega) dX4_calibrate_261 (q := 262) rfl ?_
                          rw [up_f (by decide), up_f (by decide), o4 4 z (by decide)]
                          refine jm_iast X hMw_67 9 (by decide) rfl (by omega) (by show _ < (12 : Int); omega) dX4_calibrate_262 (q := 263) rfl (fun w_68 hMw_68 hFw_68 => ?_)
                          refine j_aload_n X dX4_calibrate_263 (q := 264) rfl 5 rfl ?_
                          refine j_get X (v := .ref (am 10)) fl_X4_28 hMw_68.obj rfl dX4_calibrate_264 (q := 267) rfl ?_
                          refine j_iload_n X dX4_calibrate_267 (q := 268) rfl 6 rfl ?_
                          refine j_aload_n X dX4_calibrate_268 (q := 269) rfl 5 rfl ?_
                          have q1_269 : ∀ (U : St), U = T4 → U 1 0 = T 1 0 := fun U h => by rw [h]; exact o4 1 0 (by decide)
                          refine j_get X (v := .int (iI (T 1 0))) fl_X4_80 hMw_68.obj (by show some (Value.int (iI (T4 1 0))) = _; rw [o4 1 0 (by decide)]) dX4_calibrate_269 (q := 272) rfl ?_
                          refine jm_iast X hMw_68 10 (by decide) rfl (by omega) (by show _ < (12 : Int); omega) dX4_calibrate_272 (q := 273) rfl (fun w_69 hMw_69 hFw_69 => ?_)
                          refine j_aload_n X dX4_calibrate_273 (q := 274) rfl 5 rfl ?_
                          refine j_get X (v := .ref (am 11)) fl_X4_31 hMw_69.obj rfl dX4_calibrate_274 (q := 277) rfl ?_
                          refine j_iload_n X dX4_calibrate_277 (q := 278) rfl 6 rfl ?_
                          refine j_aload_n X dX4_calibrate_278 (q := 279) rfl 5 rfl ?_
                          have q1_279 : ∀ (U : St), U = T4 → U 1 0 = T 1 0 := fun U h => by rw [h]; exact o4 1 0 (by decide)
                          refine j_get X (v := .int (iI (T 1 0))) fl_X4_80 hMw_69.obj (by show some (Value.int (iI (T4 1 0))) = _; rw [o4 1 0 (by decide)]) dX4_calibrate_279 (q := 282) rfl ?_
                          refine j_aload_n X dX4_calibrate_282 (q := 283) rfl 5 rfl ?_
                          refine j_get X (v := .ref (am 7)) fl_X4_19 hMw_69.obj rfl dX4_calibrate_283 (q := 286) rfl ?_
                          refine j_iload_n X dX4_calibrate_286 (q := 287) rfl 6 rfl ?_
                          refine jm_iald X hMw_69 7 (by decide) rfl (by omega) (by show _ < (12 : Int); omega) dX4_calibrate_287 (q := 288) rfl ?_
                          rw [up_f (by decide), up_f (by decide), up_f (by decide), up_f (by decide)]
                          refine j_iadd X dX4_calibrate_288 (q := 289) rfl ?_
                          refine jm_iast X hMw_69 11 (by decide) rfl (by omega) (by show _ < (12 : Int); omega) dX4_calibrate_289 (q := 290) rfl (fun w_70 hMw_70 hFw_70 => ?_)
                          refine j_aload_n X dX4_calibrate_290 (q := 291) rfl 5 rfl ?_
                          refine j_get X (v := .ref (am 12)) fl_X4_34 hMw_70.obj rfl dX4_calibrate_291 (q := 294) rfl ?_
                          refine j_iload_n X dX4_calibrate_294 (q := 295) rfl 6 rfl ?_
                          refine j_iload_n X dX4_calibrate_295 (q := 296) rfl 8 rfl ?_
                          refine jm_iast X hMw_70 12 (by decide) rfl (by omega) (by show _ < (12 : Int); omega) dX4_calibrate_296 (q := 297) rfl (fun w_71 hMw_71 hFw_71 => ?_)
                          refine j_aload_n X dX4_calibrate_297 (q := 298) rfl 5 rfl ?_
                          refine j_get X (v := .ref (am 13)) fl_X4_37 hMw_71.obj rfl dX4_calibrate_298 (q := 301) rfl ?_
                          refine j_iload_n X dX4_calibrate_301 (q := 302) rfl 6 rfl ?_
                          refine j_iconst X (a := 0) dX4_calibrate_302 (q := 303) rfl ?_
                          refine jm_zast X hMw_71 13 (by decide) rfl (by omega) (by show _ < (12 : Int); omega) (Or.inl rfl) dX4_calibrate_303 (q := 304) rfl (fun w_72 hMw_72 hFw_72 => ?_)
                          refine j_iload X dX4_calibrate_304 (q := 306) rfl 1 rfl ?_
                          exact j_iret X rfl dX4_calibrate_306 (⟨⟨b, ⟨hb, hBB⟩, by rw [hx, if_pos rfl], by rw [hx, if_pos rfl, kmS, ← hT4]; exact hMw_72⟩, (((((((hF4).tr hFw_66).tr hFw_67).tr hFw_68).tr hFw_69).tr hFw_70).tr hFw_71).tr hFw_72⟩) (by decide) (by decide)
                        · skip
                          refine j_aload_n X dX4_calibrate_207 (q := 208) rfl 5 rfl ?_
                          refine j_iload_n X dX4_calibrate_208 (q := 209) rfl 6 rfl ?_
                          refine j_aload_n X dX4_calibrate_209 (q := 210) rfl 5 rfl ?_
                          refine j_get X (v := .int (iI (T 1 0))) fl_X4_80 hM6.obj (by show some (Value.int (iI (km2 T b n nm z x 1 0))) = _; rw [o2 1 0 (by decide)]) dX4_calibrate_210 (q := 213) rfl ?_
                          refine j_aload_n X dX4_calibrate_213 (q := 214) rfl 5 rfl ?_
                          refine j_get X (v := .ref (am 10)) fl_X4_28 hM6.obj rfl dX4_calibrate_214 (q := 217) rfl ?_
                          refine j_iload_n X dX4_calibrate_217 (q := 218) rfl 6 rfl ?_
                          refine jm_iald X hM6 10 (by decide) rfl (by omega) (by show _ < (12 : Int); omega) dX4_calibrate_218 (q := 219) rfl ?_
                          rw [o2 10 z (by decide)]
                          refine j_isub X dX4_calibrate_219 (q := 220) rfl ?_
                          refine j_iload_n X dX4_calibrate_220 (q := 221) rfl 7 rfl ?_
                          refine j_aload_n X dX4_calibrate_221 (q := 222) rfl 5 rfl ?_
                          refine j_get X (v := .ref (am 12)) fl_X4_34 hM6.obj rfl dX4_calibrate_222 (q := 225) rfl ?_
                          refine j_iload_n X dX4_calibrate_225 (q := 226) rfl 6 rfl ?_
                          refine jm_iald X hM6 12 (by decide) rfl (by omega) (by show _ < (12 : Int); omega) dX4_calibrate_226 (q := 227) rfl ?_
                          rw [o2 12 z (by decide)]
                          refine j_isub X dX4_calibrate_227 (q := 228) rfl ?_
                          refine j_callV X (As := [.int (iI (z)), .int (iI ((T 1 0) - (T 10 z))), .int (iI (x - (T 12 z)))]) (st := []) hM6.obj rfl (c_X4_laysPoint hlt hM6 z (T 1 0 - T 10 z) (x - T 12 z) (by omega) (by rw [o2 15 z (by decide)]; omega)) sv_X4_114 (by decide) rfl (by first | decide | exact Nat.le_of_ble_eq_true rfl | simp [cat_rf, cat_i, cat_l, cat_r]) dX4_calibrate_228 (by decide) (fun _ _ h => h.elim) ?_
                          rintro v9 w9 ⟨rfl, hM5, hF5⟩
                          refine j_st (st := []) ?_
                          have hK4 : km4 T b n nm z x = lpS (km2 T b n nm z x) z (T 1 0 - T 10 z) (x - T 12 z) := by rw [km4, if_pos k8, km3, if_pos (by omega)]
                          have hM4 := hM5
                          rw [← hK4] at hM4
                          have hF4 := hF6.tr hF5
                          have o4 : ∀ (g : Nat) (j : Int), (g ≠ 13 ∧ g ≠ 14 ∧ g ≠ 21) ∧ g ≠ 7 ∧ (g ≠ 15 ∧ g ≠ 16 ∧ g ≠ 17) → km4 T b n nm z x g j = T g j := fun g j h => km4_o h
                          obtain ⟨T4, hT4⟩ : ∃ T4, T4 = km4 T b n nm z x := ⟨_, rfl⟩
                          rw [← hT4] at hM4 o4
                          refine j_aload_n X dX4_calibrate_231 (q := 232) rfl 5 rfl ?_
                          refine j_dup X (by first | rfl | exact cat_rf _) dX4_calibrate_232 (q := 233) rfl ?_
                          refine j_get X (v := .int (iI (T 3 0))) fl_X4_118 hM4.obj (by show some (Value.int (iI (T4 3 0))) = _; rw [o4 3 0 (by decide)]) dX4_calibrate_233 (q := 236) rfl ?_
                          refine j_iconst X (a := 1) dX4_calibrate_236 (q := 237) rfl ?_
                          refine j_iadd X dX4_calibrate_237 (q := 238) rfl ?_
                          refine jm_put3 X fp_X4_118 hM4 dX4_calibrate_238 (q := 241) rfl (fun w_73 hMw_73 hFw_73 => ?_)
                          refine j_aload_n X dX4_calibrate_241 (q := 242) rfl 5 rfl ?_
                          refine j_get X (v := .ref (am 8)) fl_X4_22 hMw_73.obj rfl dX4_calibrate_242 (q := 245) rfl ?_
                          refine j_iload_n X dX4_calibrate_245 (q := 246) rfl 6 rfl ?_
                          refine j_aload_n X dX4_calibrate_246 (q := 247) rfl 5 rfl ?_
                          refine j_get X (v := .int (iI (T 3 0 + 1))) fl_X4_118 hMw_73.obj rfl dX4_calibrate_247 (q := 250) rfl ?_
                          refine jm_iast X hMw_73 8 (by decide) rfl (by omega) (by show _ < (12 : Int); omega) dX4_calibrate_250 (q := 251) rfl (fun w_74 hMw_74 hFw_74 => ?_)
                          refine j_aload_n X dX4_calibrate_251 (q := 252) rfl 5 rfl ?_
                          refine j_get X (v := .ref (am 9)) fl_X4_25 hMw_74.obj rfl dX4_calibrate_252 (q := 255) rfl ?_
                          refine j_iload_n X dX4_calibrate_255 (q := 256) rfl 6 rfl ?_
                          refine j_aload_n X dX4_calibrate_256 (q := 257) rfl 5 rfl ?_
                          refine j_get X (v := .ref (am 4)) fl_X4_7 hMw_74.obj rfl dX4_calibrate_257 (q := 260) rfl ?_
                          refine j_iload_n X dX4_calibrate_260 (q := 261) rfl 6 rfl ?_
                          refine jm_iald X hMw_74 4 (by decide) rfl (by omega) (by show _ < (12 : Int); omega) dX4_calibrate_261 (q := 262) rfl ?_
                          rw [up_f (by decide), up_f (by decide), o4 4 z (by decide)]
                          refine jm_iast X hMw_74 9 (by decide) rfl (by omega) (by show _ < (12 : Int); omega) dX4_calibrate_262 (q := 263) rfl (fun w_75 hMw_75 hFw_75 => ?_)
                          refine j_aload_n X dX4_calibrate_263 (q := 264) rfl 5 rfl ?_
                          refine j_get X (v := .ref (am 10)) fl_X4_28 hMw_75.obj rfl dX4_calibrate_264 (q := 267) rfl ?_
                          refine j_iload_n X dX4_calibrate_267 (q := 268) rfl 6 rfl ?_
                          refine j_aload_n X dX4_calibrate_268 (q := 269) rfl 5 rfl ?_
                          have q1_269 : ∀ (U : St), U = T4 → U 1 0 = T 1 0 := fun U h => by rw [h]; exact o4 1 0 (by decide)
                          refine j_get X (v := .int (iI (T 1 0))) fl_X4_80 hMw_75.obj (by show some (Value.int (iI (T4 1 0))) = _; rw [o4 1 0 (by decide)]) dX4_calibrate_269 (q := 272) rfl ?_
                          refine jm_iast X hMw_75 10 (by decide) rfl (by omega) (by show _ < (12 : Int); omega) dX4_calibrate_272 (q := 273) rfl (fun w_76 hMw_76 hFw_76 => ?_)
                          refine j_aload_n X dX4_calibrate_273 (q := 274) rfl 5 rfl ?_
                          refine j_get X (v := .ref (am 11)) fl_X4_31 hMw_76.obj rfl dX4_calibrate_274 (q := 277) rfl ?_
                          refine j_iload_n X dX4_calibrate_277 (q := 278) rfl 6 rfl ?_
                          refine j_aload_n X dX4_calibrate_278 (q := 279) rfl 5 rfl ?_
                          have q1_279 : ∀ (U : St), U = T4 → U 1 0 = T 1 0 := fun U h => by rw [h]; exact o4 1 0 (by decide)
                          refine j_get X (v := .int (iI (T 1 0))) fl_X4_80 hMw_76.obj (by show some (Value.int (iI (T4 1 0))) = _; rw [o4 1 0 (by decide)]) dX4_calibrate_279 (q := 282) rfl ?_
                          refine j_aload_n X dX4_calibrate_282 (q := 283) rfl 5 rfl ?_
                          refine j_get X (v := .ref (am 7)) fl_X4_19 hMw_76.obj rfl dX4_calibrate_283 (q := 286) rfl ?_
                          refine j_iload_n X dX4_calibrate_286 (q := 287) rfl 6 rfl ?_
                          refine jm_iald X hMw_76 7 (by decide) rfl (by omega) (by show _ < (12 : Int); omega) dX4_calibrate_287 (q := 288) rfl ?_
                          rw [up_f (by decide), up_f (by decide), up_f (by decide), up_f (by decide)]
                          refine j_iadd X dX4_calibrate_288 (q := 289) rfl ?_
                          refine jm_iast X hMw_76 11 (by decide) rfl (by omega) (by show _ < (12 : Int); omega) dX4_calibrate_289 (q := 290) rfl (fun w_77 hMw_77 hFw_77 => ?_)
                          refine j_aload_n X dX4_calibrate_290 (q := 291) rfl 5 rfl ?_
                          refine j_get X (v := .ref (am 12)) fl_X4_34 hMw_77.obj rfl dX4_calibrate_291 (q := 294) rfl ?_
                          refine j_iload_n X dX4_calibrate_294 (q := 295) rfl 6 rfl ?_
                          refine j_iload_n X dX4_calibrate_295 (q := 296) rfl 8 rfl ?_
                          refine jm_iast X hMw_77 12 (by decide) rfl (by omega) (by show _ < (12 : Int); omega) dX4_calibrate_296 (q := 297) rfl (fun w_78 hMw_78 hFw_78 => ?_)
                          refine j_aload_n X dX4_calibrate_297 (q := 298) rfl 5 rfl ?_
                          refine j_get X (v := .ref (am 13)) fl_X4_37 hMw_78.obj rfl dX4_calibrate_298 (q := 301) rfl ?_
                          refine j_iload_n X dX4_calibrate_301 (q := 302) rfl 6 rfl ?_
                          refine j_iconst X (a := 0) dX4_calibrate_302 (q := 303) rfl ?_
                          refine jm_zast X hMw_78 13 (by decide) rfl (by omega) (by show _ < (12 : Int); omega) (Or.inl rfl) dX4_calibrate_303 (q := 304) rfl (fun w_79 hMw_79 hFw_79 => ?_)
                          refine j_iload X dX4_calibrate_304 (q := 306) rfl 1 rfl ?_
                          exact j_iret X rfl dX4_calibrate_306 (⟨⟨b, ⟨hb, hBB⟩, by rw [hx, if_pos rfl], by rw [hx, if_pos rfl, kmS, ← hT4]; exact hMw_79⟩, (((((((hF4).tr hFw_73).tr hFw_74).tr hFw_75).tr hFw_76).tr hFw_77).tr hFw_78).tr hFw_79⟩) (by decide) (by decide)
                      · skip
                        exact absurd c_155 (by omega)
                    · skip
                      refine j_iconst X (a := 1) dX4_calibrate_133 (q := 134) rfl ?_
                      refine j_goto X (tgt := 141) dX4_calibrate_134 (by decide) ?_
                      refine j_istore X (i := 7) dX4_calibrate_141 (by decide) (q := 143) rfl (lv' := [(7, .int (iI (1))), (6, .int (iI (cnM T b nm))), (8, .int (iI (1))), (5, .int (iI (1))), (4, .int (iI (tf (0 ≤ z ∧ z < n)))), (0, .ref (am 0)), (1, .int (iI (z))), (2, .int (iI (x))), (3, .int (iI (lf)))]) (by first | rfl | simp [cat_rf, cat_i, cat_l, cat_r]) ?_
                      refine j_iconst X (a := 2) dX4_calibrate_143 (q := 144) rfl ?_
                      refine j_iload_n X dX4_calibrate_144 (q := 145) rfl 7 rfl ?_
                      refine j_callS X (As := [.int (iI (x))]) (st := [.int (iI (2))])  (c_X4_unsigned hlt x (by omega)) ss_X4_108 (by decide) rfl (by first | decide | exact Nat.le_of_ble_eq_true rfl | simp [cat_rf, cat_i, cat_l, cat_r]) dX4_calibrate_145 (by decide) (fun _ _ h => h.elim) ?_
                      rintro v9 w9 ⟨rfl, rfl⟩
                      refine j_st (st := [.int (iI (iabs x)), .int (iI (2))]) ?_
                      refine j_imul X dX4_calibrate_148 (q := 149) rfl ?_
                      refine j_aload_n X dX4_calibrate_149 (q := 150) rfl 5 rfl ?_
                      refine j_get X (v := .ref (am 5)) fl_X4_13 hM8.obj rfl dX4_calibrate_150 (q := 153) rfl ?_
                      refine j_iload_n X dX4_calibrate_153 (q := 154) rfl 6 rfl ?_
                      refine jm_iald X hM8 5 (by decide) rfl (by omega) (by show _ < (12 : Int); omega) dX4_calibrate_154 (q := 155) rfl ?_
                      rw [faM_o (by decide)]
                      refine j_icmp_gt X (tgt := 186) dX4_calibrate_155 (by decide) (q := 158) rfl (by omega) (by omega) (fun c_155 => ?_) (fun c_155 => ?_)
                      · skip
                        obtain ⟨iv, hiv⟩ : ∃ iv, iv = niv (T 5 z) (iabs x) (T 7 z) := ⟨_, rfl⟩
                        have hniv : 1 = iv := by
                          rw [hiv]
                          rw [niv, if_pos (by omega)]; rw [if_neg (by omega)]
                        have hnb : 1 ≤ niv (T 5 z) (iabs x) (T 7 z) ∧ niv (T 5 z) (iabs x) (T 7 z) ≤ 999 := niv_b (by omega)
                        have hR6 : cnM T b nm = kmR T b nm z x := by rw [kmR, if_pos ⟨k8, by omega⟩]
                        have hK1 : km1 T b n nm z x = faM T b z n nm := by rw [km1, if_pos (by omega)]
                        have hF7 := hF9.tr hF8
                        rw [← hK1] at hM8
                        have hM7 := hM8
                        have hBB := fun (_ : 0 ≤ z ∧ z < n) (_ : 0 < T 8 z) => hB
                        refine j_lc (lv' := [(7, .int (iI (iv))), (6, .int (iI (kmR T b nm z x))), (8, .int (iI (1))), (5, .int (iI (1))), (4, .int (iI (tf (0 ≤ z ∧ z < n)))), (0, .ref (am 0)), (1, .int (iI (z))), (2, .int (iI (x))), (3, .int (iI (lf)))]) (by rw [hniv, hR6]) ?_
                        refine j_aload_n X dX4_calibrate_186 (q := 187) rfl 5 rfl ?_
                        refine j_get X (v := .ref (am 7)) fl_X4_19 hM7.obj rfl dX4_calibrate_187 (q := 190) rfl ?_
                        refine j_iload_n X dX4_calibrate_190 (q := 191) rfl 6 rfl ?_
                        refine j_iload X dX4_calibrate_191 (q := 193) rfl 0 rfl ?_
                        refine jm_iast X hM7 7 (by decide) rfl (by omega) (by show _ < (12 : Int); omega) dX4_calibrate_193 (q := 194) rfl (fun w_80 hMw_80 hFw_80 => ?_)
                        have hM6 : MW base ca am 0 (km2 T b n nm z x) w_80 := by rw [km2, ← hiv]; exact hMw_80
                        have hF6 := hF7.tr hFw_80
                        have o2 : ∀ (g : Nat) (j : Int), (g ≠ 13 ∧ g ≠ 14 ∧ g ≠ 21) ∧ g ≠ 7 → km2 T b n nm z x g j = T g j := fun g j h => by rw [km2, up_f h.2, km1_o h.1]
                        refine j_aload_n X dX4_calibrate_194 (q := 195) rfl 5 rfl ?_
                        refine j_get X (v := .int (iI (T 1 0))) fl_X4_80 hM6.obj (by show some (Value.int (iI (km2 T b n nm z x 1 0))) = _; rw [o2 1 0 (by decide)]) dX4_calibrate_195 (q := 198) rfl ?_
                        refine j_aload_n X dX4_calibrate_198 (q := 199) rfl 5 rfl ?_
                        refine j_get X (v := .ref (am 10)) fl_X4_28 hM6.obj rfl dX4_calibrate_199 (q := 202) rfl ?_
                        refine j_iload_n X dX4_calibrate_202 (q := 203) rfl 6 rfl ?_
                        refine jm_iald X hM6 10 (by decide) rfl (by omega) (by show _ < (12 : Int); omega) dX4_calibrate_203 (q := 204) rfl ?_
                        rw [o2 10 z (by decide)]
                        refine j_icmp_le X (tgt := 231) dX4_calibrate_204 (by decide) (q := 207) rfl (by omega) (by omega) (fun c_204 => ?_) (fun c_204 => ?_)
                        · skip
                          have hK4 : km4 T b n nm z x = km2 T b n nm z x := by rw [km4, if_pos k8, km3, if_neg (by omega)]
                          have hM4 := hM6
                          rw [← hK4] at hM4
                          have hF4 := hF6
                          have o4 : ∀ (g : Nat) (j : Int), (g ≠ 13 ∧ g ≠ 14 ∧ g ≠ 21) ∧ g ≠ 7 ∧ (g ≠ 15 ∧ g ≠ 16 ∧ g ≠ 17) → km4 T b n nm z x g j = T g j := fun g j h => km4_o h
                          obtain ⟨T4, hT4⟩ : ∃ T4, T4 = km4 T b n nm z x := ⟨_, rfl⟩
                          rw [← hT4] at hM4 o4
                          refine j_aload_n X dX4_calibrate_231 (q := 232) rfl 5 rfl ?_
                          refine j_dup X (by first | rfl | exact cat_rf _) dX4_calibrate_232 (q := 233) rfl ?_
                          refine j_get X (v := .int (iI (T 3 0))) fl_X4_118 hM4.obj (by show some (Value.int (iI (T4 3 0))) = _; rw [o4 3 0 (by decide)]) dX4_calibrate_233 (q := 236) rfl ?_
                          refine j_iconst X (a := 1) dX4_calibrate_236 (q := 237) rfl ?_
                          refine j_iadd X dX4_calibrate_237 (q := 238) rfl ?_
                          refine jm_put3 X fp_X4_118 hM4 dX4_calibrate_238 (q := 241) rfl (fun w_81 hMw_81 hFw_81 => ?_)
                          refine j_aload_n X dX4_calibrate_241 (q := 242) rfl 5 rfl ?_
                          refine j_get X (v := .ref (am 8)) fl_X4_22 hMw_81.obj rfl dX4_calibrate_242 (q := 245) rfl ?_
                          refine j_iload_n X dX4_calibrate_245 (q := 246) rfl 6 rfl ?_
                          refine j_aload_n X dX4_calibrate_246 (q := 247) rfl 5 rfl ?_
                          refine j_get X (v := .int (iI (T 3 0 + 1))) fl_X4_118 hMw_81.obj rfl dX4_calibrate_247 (q := 250) rfl ?_
                          refine jm_iast X hMw_81 8 (by decide) rfl (by omega) (by show _ < (12 : Int); omega) dX4_calibrate_250 (q := 251) rfl (fun w_82 hMw_82 hFw_82 => ?_)
                          refine j_aload_n X dX4_calibrate_251 (q := 252) rfl 5 rfl ?_
                          refine j_get X (v := .ref (am 9)) fl_X4_25 hMw_82.obj rfl dX4_calibrate_252 (q := 255) rfl ?_
                          refine j_iload_n X dX4_calibrate_255 (q := 256) rfl 6 rfl ?_
                          refine j_aload_n X dX4_calibrate_256 (q := 257) rfl 5 rfl ?_
                          refine j_get X (v := .ref (am 4)) fl_X4_7 hMw_82.obj rfl dX4_calibrate_257 (q := 260) rfl ?_
                          refine j_iload_n X dX4_calibrate_260 (q := 261) rfl 6 rfl ?_
                          refine jm_iald X hMw_82 4 (by decide) rfl (by omega) (by show _ < (12 : Int); omega) dX4_calibrate_261 (q := 262) rfl ?_
                          rw [up_f (by decide), up_f (by decide), o4 4 z (by decide)]
                          refine jm_iast X hMw_82 9 (by decide) rfl (by omega) (by show _ < (12 : Int); omega) dX4_calibrate_262 (q := 263) rfl (fun w_83 hMw_83 hFw_83 => ?_)
                          refine j_aload_n X dX4_calibrate_263 (q := 264) rfl 5 rfl ?_
                          refine j_get X (v := .ref (am 10)) fl_X4_28 hMw_83.obj rfl dX4_calibrate_264 (q := 267) rfl ?_
                          refine j_iload_n X dX4_calibrate_267 (q := 268) rfl 6 rfl ?_
                          refine j_aload_n X dX4_calibrate_268 (q := 269) rfl 5 rfl ?_
                          have q1_269 : ∀ (U : St), U = T4 → U 1 0 = T 1 0 := fun U h => by rw [h]; exact o4 1 0 (by decide)
                          refine j_get X (v := .int (iI (T 1 0))) fl_X4_80 hMw_83.obj (by show some (Value.int (iI (T4 1 0))) = _; rw [o4 1 0 (by decide)]) dX4_calibrate_269 (q := 272) rfl ?_
                          refine jm_iast X hMw_83 10 (by decide) rfl (by omega) (by show _ < (12 : Int); omega) dX4_calibrate_272 (q := 273) rfl (fun w_84 hMw_84 hFw_84 => ?_)
                          refine j_aload_n X dX4_calibrate_273 (q := 274) rfl 5 rfl ?_
                          refine j_get X (v := .ref (am 11)) fl_X4_31 hMw_84.obj rfl dX4_calibrate_274 (q := 277) rfl ?_
                          refine j_iload_n X dX4_calibrate_277 (q := 278) rfl 6 rfl ?_
                          refine j_aload_n X dX4_calibrate_278 (q := 279) rfl 5 rfl ?_
                          have q1_279 : ∀ (U : St), U = T4 → U 1 0 = T 1 0 := fun U h => by rw [h]; exact o4 1 0 (by decide)
                          refine j_get X (v := .int (iI (T 1 0))) fl_X4_80 hMw_84.obj (by show some (Value.int (iI (T4 1 0))) = _; rw [o4 1 0 (by decide)]) dX4_calibrate_279 (q := 282) rfl ?_
                          refine j_aload_n X dX4_calibrate_282 (q := 283) rfl 5 rfl ?_
                          refine j_get X (v := .ref (am 7)) fl_X4_19 hMw_84.obj rfl dX4_calibrate_283 (q := 286) rfl ?_
                          refine j_iload_n X dX4_calibrate_286 (q := 287) rfl 6 rfl ?_
                          refine jm_iald X hMw_84 7 (by decide) rfl (by omega) (by show _ < (12 : Int); omega) dX4_calibrate_287 (q := 288) rfl ?_
                          rw [up_f (by decide), up_f (by decide), up_f (by decide), up_f (by decide)]
                          refine j_iadd X dX4_calibrate_288 (q := 289) rfl ?_
                          refine jm_iast X hMw_84 11 (by decide) rfl (by omega) (by show _ < (12 : Int); omega) dX4_calibrate_289 (q := 290) rfl (fun w_85 hMw_85 hFw_85 => ?_)
                          refine j_aload_n X dX4_calibrate_290 (q := 291) rfl 5 rfl ?_
                          refine j_get X (v := .ref (am 12)) fl_X4_34 hMw_85.obj rfl dX4_calibrate_291 (q := 294) rfl ?_
                          refine j_iload_n X dX4_calibrate_294 (q := 295) rfl 6 rfl ?_
                          refine j_iload_n X dX4_calibrate_295 (q := 296) rfl 8 rfl ?_
                          refine jm_iast X hMw_85 12 (by decide) rfl (by omega) (by show _ < (12 : Int); omega) dX4_calibrate_296 (q := 297) rfl (fun w_86 hMw_86 hFw_86 => ?_)
                          refine j_aload_n X dX4_calibrate_297 (q := 298) rfl 5 rfl ?_
                          refine j_get X (v := .ref (am 13)) fl_X4_37 hMw_86.obj rfl dX4_calibrate_298 (q := 301) rfl ?_
                          refine j_iload_n X dX4_calibrate_301 (q := 302) rfl 6 rfl ?_
                          refine j_iconst X (a := 0) dX4_calibrate_302 (q := 303) rfl ?_
                          refine jm_zast X hMw_86 13 (by decide) rfl (by omega) (by show _ < (12 : Int); omega) (Or.inl rfl) dX4_calibrate_303 (q := 304) rfl (fun w_87 hMw_87 hFw_87 => ?_)
                          refine j_iload X dX4_calibrate_304 (q := 306) rfl 1 rfl ?_
                          exact j_iret X rfl dX4_calibrate_306 (⟨⟨b, ⟨hb, hBB⟩, by rw [hx, if_pos rfl], by rw [hx, if_pos rfl, kmS, ← hT4]; exact hMw_87⟩, (((((((hF4).tr hFw_81).tr hFw_82).tr hFw_83).tr hFw_84).tr hFw_85).tr hFw_86).tr hFw_87⟩) (by decide) (by decide)
                        · skip
                          refine j_aload_n X dX4_calibrate_207 (q := 208) rfl 5 rfl ?_
                          refine j_iload_n X dX4_calibrate_208 (q := 209) rfl 6 rfl ?_
                          refine j_aload_n X dX4_calibrate_209 (q := 210) rfl 5 rfl ?_
                          refine j_get X (v := .int (iI (T 1 0))) fl_X4_80 hM6.obj (by show some (Value.int (iI (km2 T b n nm z x 1 0))) = _; rw [o2 1 0 (by decide)]) dX4_calibrate_210 (q := 213) rfl ?_
                          refine j_aload_n X dX4_calibrate_213 (q := 214) rfl 5 rfl ?_
                          refine j_get X (v := .ref (am 10)) fl_X4_28 hM6.obj rfl dX4_calibrate_214 (q := 217) rfl ?_
                          refine j_iload_n X dX4_calibrate_217 (q := 218) rfl 6 rfl ?_
                          refine jm_iald X hM6 10 (by decide) rfl (by omega) (by show _ < (12 : Int); omega) dX4_calibrate_218 (q := 219) rfl ?_
                          rw [o2 10 z (by decide)]
                          refine j_isub X dX4_calibrate_219 (q := 220) rfl ?_
                          refine j_iload_n X dX4_calibrate_220 (q := 221) rfl 7 rfl ?_
                          refine j_aload_n X dX4_calibrate_221 (q := 222) rfl 5 rfl ?_
                          refine j_get X (v := .ref (am 12)) fl_X4_34 hM6.obj rfl dX4_calibrate_222 (q := 225) rfl ?_
                          refine j_iload_n X dX4_calibrate_225 (q := 226) rfl 6 rfl ?_
                          refine jm_iald X hM6 12 (by decide) rfl (by omega) (by show _ < (12 : Int); omega) dX4_calibrate_226 (q := 227) rfl ?_
                          rw [o2 12 z (by decide)]
                          refine j_isub X dX4_calibrate_227 (q := 228) rfl ?_
                          refine j_callV X (As := [.int (iI (z)), .int (iI ((T 1 0) - (T 10 z))), .int (iI (x - (T 12 z)))]) (st := []) hM6.obj rfl (c_X4_laysPoint hlt hM6 z (T 1 0 - T 10 z) (x - T 12 z) (by omega) (by rw [o2 15 z (by decide)]; omega)) sv_X4_114 (by decide) rfl (by first | decide | exact Nat.le_of_ble_eq_true rfl | simp [cat_rf, cat_i, cat_l, cat_r]) dX4_calibrate_228 (by decide) (fun _ _ h => h.elim) ?_
                          rintro v9 w9 ⟨rfl, hM5, hF5⟩
                          refine j_st (st := []) ?_
                          have hK4 : km4 T b n nm z x = lpS (km2 T b n nm z x) z (T 1 0 - T 10 z) (x - T 12 z) := by rw [km4, if_pos k8, km3, if_pos (by omega)]
                          have hM4 := hM5
                          rw [← hK4] at hM4
                          have hF4 := hF6.tr hF5
                          have o4 : ∀ (g : Nat) (j : Int), (g ≠ 13 ∧ g ≠ 14 ∧ g ≠ 21) ∧ g ≠ 7 ∧ (g ≠ 15 ∧ g ≠ 16 ∧ g ≠ 17) → km4 T b n nm z x g j = T g j := fun g j h => km4_o h
                          obtain ⟨T4, hT4⟩ : ∃ T4, T4 = km4 T b n nm z x := ⟨_, rfl⟩
                          rw [← hT4] at hM4 o4
                          refine j_aload_n X dX4_calibrate_231 (q := 232) rfl 5 rfl ?_
                          refine j_dup X (by first | rfl | exact cat_rf _) dX4_calibrate_232 (q := 233) rfl ?_
                          refine j_get X (v := .int (iI (T 3 0))) fl_X4_118 hM4.obj (by show some (Value.int (iI (T4 3 0))) = _; rw [o4 3 0 (by decide)]) dX4_calibrate_233 (q := 236) rfl ?_
                          refine j_iconst X (a := 1) dX4_calibrate_236 (q := 237) rfl ?_
                          refine j_iadd X dX4_calibrate_237 (q := 238) rfl ?_
                          refine jm_put3 X fp_X4_118 hM4 dX4_calibrate_238 (q := 241) rfl (fun w_88 hMw_88 hFw_88 => ?_)
                          refine j_aload_n X dX4_calibrate_241 (q := 242) rfl 5 rfl ?_
                          refine j_get X (v := .ref (am 8)) fl_X4_22 hMw_88.obj rfl dX4_calibrate_242 (q := 245) rfl ?_
                          refine j_iload_n X dX4_calibrate_245 (q := 246) rfl 6 rfl ?_
                          refine j_aload_n X dX4_calibrate_246 (q := 247) rfl 5 rfl ?_
                          refine j_get X (v := .int (iI (T 3 0 + 1))) fl_X4_118 hMw_88.obj rfl dX4_calibrate_247 (q := 250) rfl ?_
                          refine jm_iast X hMw_88 8 (by decide) rfl (by omega) (by show _ < (12 : Int); omega) dX4_calibrate_250 (q := 251) rfl (fun w_89 hMw_89 hFw_89 => ?_)
                          refine j_aload_n X dX4_calibrate_251 (q := 252) rfl 5 rfl ?_
                          refine j_get X (v := .ref (am 9)) fl_X4_25 hMw_89.obj rfl dX4_calibrate_252 (q := 255) rfl ?_
                          refine j_iload_n X dX4_calibrate_255 (q := 256) rfl 6 rfl ?_
                          refine j_aload_n X dX4_calibrate_256 (q := 257) rfl 5 rfl ?_
                          refine j_get X (v := .ref (am 4)) fl_X4_7 hMw_89.obj rfl dX4_calibrate_257 (q := 260) rfl ?_
                          refine j_iload_n X dX4_calibrate_260 (q := 261) rfl 6 rfl ?_
                          refine jm_iald X hMw_89 4 (by decide) rfl (by omega) (by show _ < (12 : Int); omega) dX4_calibrate_261 (q := 262) rfl ?_
                          rw [up_f (by decide), up_f (by decide), o4 4 z (by decide)]
                          refine jm_iast X hMw_89 9 (by decide) rfl (by omega) (by show _ < (12 : Int); omega) dX4_calibrate_262 (q := 263) rfl (fun w_90 hMw_90 hFw_90 => ?_)
                          refine j_aload_n X dX4_calibrate_263 (q := 264) rfl 5 rfl ?_
                          refine j_get X (v := .ref (am 10)) fl_X4_28 hMw_90.obj rfl dX4_calibrate_264 (q := 267) rfl ?_
                          refine j_iload_n X dX4_calibrate_267 (q := 268) rfl 6 rfl ?_
                          refine j_aload_n X dX4_calibrate_268 (q := 269) rfl 5 rfl ?_
                          have q1_269 : ∀ (U : St), U = T4 → U 1 0 = T 1 0 := fun U h => by rw [h]; exact o4 1 0 (by decide)
                          refine j_get X (v := .int (iI (T 1 0))) fl_X4_80 hMw_90.obj (by show some (Value.int (iI (T4 1 0))) = _; rw [o4 1 0 (by decide)]) dX4_calibrate_269 (q := 272) rfl ?_
                          refine jm_iast X hMw_90 10 (by decide) rfl (by omega) (by show _ < (12 : Int); omega) dX4_calibrate_272 (q := 273) rfl (fun w_91 hMw_91 hFw_91 => ?_)
                          refine j_aload_n X dX4_calibrate_273 (q := 274) rfl 5 rfl ?_
                          refine j_get X (v := .ref (am 11)) fl_X4_31 hMw_91.obj rfl dX4_calibrate_274 (q := 277) rfl ?_
                          refine j_iload_n X dX4_calibrate_277 (q := 278) rfl 6 rfl ?_
                          refine j_aload_n X dX4_calibrate_278 (q := 279) rfl 5 rfl ?_
                          have q1_279 : ∀ (U : St), U = T4 → U 1 0 = T 1 0 := fun U h => by rw [h]; exact o4 1 0 (by decide)
                          refine j_get X (v := .int (iI (T 1 0))) fl_X4_80 hMw_91.obj (by show some (Value.int (iI (T4 1 0))) = _; rw [o4 1 0 (by decide)]) dX4_calibrate_279 (q := 282) rfl ?_
                          refine j_aload_n X dX4_calibrate_282 (q := 283) rfl 5 rfl ?_
                          refine j_get X (v := .ref (am 7)) fl_X4_19 hMw_91.obj rfl dX4_calibrate_283 (q := 286) rfl ?_
                          refine j_iload_n X dX4_calibrate_286 (q := 287) rfl 6 rfl ?_
                          refine jm_iald X hMw_91 7 (by decide) rfl (by omega) (by show _ < (12 : Int); omega) dX4_calibrate_287 (q := 288) rfl ?_
                          rw [up_f (by decide), up_f (by decide), up_f (by decide), up_f (by decide)]
                          refine j_iadd X dX4_calibrate_288 (q := 289) rfl ?_
                          refine jm_iast X hMw_91 11 (by decide) rfl (by omega) (by show _ < (12 : Int); omega) dX4_calibrate_289 (q := 290) rfl (fun w_92 hMw_92 hFw_92 => ?_)
                          refine j_aload_n X dX4_calibrate_290 (q := 291) rfl 5 rfl ?_
                          refine j_get X (v := .ref (am 12)) fl_X4_34 hMw_92.obj rfl dX4_calibrate_291 (q := 294) rfl ?_
                          refine j_iload_n X dX4_calibrate_294 (q := 295) rfl 6 rfl ?_
                          refine j_iload_n X dX4_calibrate_295 (q := 296) rfl 8 rfl ?_
                          refine jm_iast X hMw_92 12 (by decide) rfl (by omega) (by show _ < (12 : Int); omega) dX4_calibrate_296 (q := 297) rfl (fun w_93 hMw_93 hFw_93 => ?_)
                          refine j_aload_n X dX4_calibrate_297 (q := 298) rfl 5 rfl ?_
                          refine j_get X (v := .ref (am 13)) fl_X4_37 hMw_93.obj rfl dX4_calibrate_298 (q := 301) rfl ?_
                          refine j_iload_n X dX4_calibrate_301 (q := 302) rfl 6 rfl ?_
                          refine j_iconst X (a := 0) dX4_calibrate_302 (q := 303) rfl ?_
                          refine jm_zast X hMw_93 13 (by decide) rfl (by omega) (by show _ < (12 : Int); omega) (Or.inl rfl) dX4_calibrate_303 (q := 304) rfl (fun w_94 hMw_94 hFw_94 => ?_)
                          refine j_iload X dX4_calibrate_304 (q := 306) rfl 1 rfl ?_
                          exact j_iret X rfl dX4_calibrate_306 (⟨⟨b, ⟨hb, hBB⟩, by rw [hx, if_pos rfl], by rw [hx, if_pos rfl, kmS, ← hT4]; exact hMw_94⟩, (((((((hF4).tr hFw_88).tr hFw_89).tr hFw_90).tr hFw_91).tr hFw_92).tr hFw_93).tr hFw_94⟩) (by decide) (by decide)
                      · skip
                        exact absurd c_155 (by omega)
            · skip
              exact absurd c_69 (by decide)
          · skip
            refine j_iconst X (a := 3) dX4_calibrate_61 (q := 62) rfl ?_
            refine j_goto X (tgt := 66) dX4_calibrate_62 (by decide) ?_
            refine j_callV X (As := [.int (iI (3))]) (st := []) hM.obj rfl (c_X4_holds hlt hM hI (3) (by decide)) sv_X4_73 (by decide) rfl (by first | decide | exact Nat.le_of_ble_eq_true rfl | simp [cat_rf, cat_i, cat_l, cat_r]) dX4_calibrate_66 (by decide) (fun _ _ h => h.elim) ?_
            rintro v9 w9 ⟨rfl, hM9, hF9⟩
            refine j_st (st := [.int (iI (tf (((3) : Int) = 0)))]) ?_
            have hx : kaC n T z x lf = 3 := by unfold kaC; (repeat' split) <;> omega
            rw [← hx] at hM9
            have hb9 := tf_b (((3) : Int) = 0)
            refine j_if_ne X (tgt := 74) dX4_calibrate_69 (by decide) (q := 72) rfl (by omega) (fun c_69 => ?_) (fun c_69 => ?_)
            · skip
              exact absurd c_69 (by decide)
            · skip
              refine j_iconst X (a := 0) dX4_calibrate_72 (q := 73) rfl ?_
              exact j_iret X rfl dX4_calibrate_73 ((rc_any hI z).elim fun b hb => ⟨⟨b, hb, by rw [hx]; rfl, by rw [hx] at hM9 ⊢; exact hM9⟩, hF9⟩) (by decide) (by decide)
        · skip
          exact absurd c_40 (by decide)
      · skip
        have k1 : ¬ (0 ≤ z ∧ z < n) := tf_0 c_31
        refine j_iconst X (a := 1) dX4_calibrate_34 (q := 35) rfl ?_
        refine j_goto X (tgt := 66) dX4_calibrate_35 (by decide) ?_
        refine j_callV X (As := [.int (iI (1))]) (st := []) hM.obj rfl (c_X4_holds hlt hM hI (1) (by decide)) sv_X4_73 (by decide) rfl (by first | decide | exact Nat.le_of_ble_eq_true rfl | simp [cat_rf, cat_i, cat_l, cat_r]) dX4_calibrate_66 (by decide) (fun _ _ h => h.elim) ?_
        rintro v9 w9 ⟨rfl, hM9, hF9⟩
        refine j_st (st := [.int (iI (tf (((1) : Int) = 0)))]) ?_
        have hx : kaC n T z x lf = 1 := by unfold kaC; (repeat' split) <;> omega
        rw [← hx] at hM9
        have hb9 := tf_b (((1) : Int) = 0)
        refine j_if_ne X (tgt := 74) dX4_calibrate_69 (by decide) (q := 72) rfl (by omega) (fun c_69 => ?_) (fun c_69 => ?_)
        · skip
          exact absurd c_69 (by decide)
        · skip
          refine j_iconst X (a := 0) dX4_calibrate_72 (q := 73) rfl ?_
          exact j_iret X rfl dX4_calibrate_73 ((rc_any hI z).elim fun b hb => ⟨⟨b, hb, by rw [hx]; rfl, by rw [hx] at hM9 ⊢; exact hM9⟩, hF9⟩) (by decide) (by decide)
