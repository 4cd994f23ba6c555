def wcv (T : St) (z h k : Int) : Int := if k = h then 0 else unc (T 4) (T 6) (12 - (k + 1)).toNat (an (T 4) (k + 1).toNat z)
theorem wc1 {T : St} {z h : Int} (hh : 0 ≤ h ∧ h ≤ 11) (ha : 0 ≤ an (T 4) h.toNat z) (hr : T 4 (an (T 4) h.toNat z) = -1) (h6 : 0 ≤ T 6 (an (T 4) h.toNat z) ∧ T 6 (an (T 4) h.toNat z) ≤ 999) : T 6 (an (T 4) h.toNat z) = wcv T z h (h - 1) := by
  rw [wcv, if_neg (by omega), show h - 1 + 1 = h by omega, show (12 - h).toNat = (11 - h).toNat + 1 by omega, unc_s ha, hr, unc_n (by decide), rt_sq h6]
theorem wc2 {T : St} {z h k v : Int} (hk : 0 ≤ k ∧ k < h) (hh : h ≤ 11) (ha : 0 ≤ an (T 4) k.toNat z) (hv : v = wcv T z h k) : rt (T 6 (an (T 4) k.toNat z) * T 6 (an (T 4) k.toNat z) + v * v) = wcv T z h (k - 1) := by
  rw [hv, wcv, wcv, if_neg (by omega), if_neg (by omega), show k - 1 + 1 = k by omega, show (12 - k).toNat = (12 - (k + 1)).toNat + 1 by omega, unc_s ha, show (k + 1).toNat = k.toNat + 1 by omega, an_s]
theorem wcv_b {n nm : Int} {T : St} (hI : MI n nm T) {z h k : Int} (hk : -1 ≤ k ∧ k ≤ h) (hh : h ≤ 11) (hz : ∀ j : Nat, j ≤ h.toNat → 0 ≤ an (T 4) j z ∧ an (T 4) j z < n) : 0 ≤ wcv T z h k ∧ wcv T z h k ≤ 11988 := by
  unfold wcv
  split
  · decide
  · have h1 := hz (k + 1).toNat (by omega)
    have h2 := unc_b (ref := T 4) (own := T 6) (n := n) (fun i a b => by
      obtain ⟨g1, -, g2, -⟩ := hI.ins a b
      exact ⟨g1, g2⟩) (12 - (k + 1)).toNat (an (T 4) (k + 1).toNat z) (by omega) (by omega) h1.2
    omega
def ahm (T : St) (z i : Int) : Int := tf (0 < T 8 i ∧ (T 11 i < T 11 z ∨ (T 11 i = T 11 z ∧ i < z)))
def dob (n : Int) (T : St) (z e : Int) : Int := T 1 0 + (sm (ahm T z) n.toNat).tdiv e
def latm (n : Int) (T : St) (e i : Int) : Int := tf (0 < T 8 i ∧ T 11 i < dob n T i e)
theorem ahm_b {n : Int} (hn : 0 ≤ n ∧ n ≤ 12) (T : St) (z : Int) : 0 ≤ sm (ahm T z) n.toNat ∧ sm (ahm T z) n.toNat ≤ 12 := by
  have := sm_b (f := ahm T z) (fun i => tf_b _) n.toNat
  omega
def cbC (nm z : Int) : Int := if 0 ≤ z ∧ z < nm then 0 else 1
def bdC (n z e : Int) : Int := if 0 ≤ z ∧ z < n then (if 1 ≤ e ∧ e ≤ 12 then 0 else 2) else 1
def ltC (e : Int) : Int := if 1 ≤ e ∧ e ≤ 12 then 0 else 1
def psC (d : Int) : Int := if 1 ≤ d ∧ d ≤ 999 then 0 else 1
def rfC (n : Int) (T : St) (z r : Int) : Int := if (0 ≤ z ∧ z < n) ∧ (r = -1 ∨ (0 ≤ r ∧ r < n)) then (if r ≠ -1 ∧ inCh (T 4) 12 r z = 1 then 2 else 0) else 1
def tlC (n r t u v : Int) : Int := if r = -1 ∨ (0 ≤ r ∧ r < n) then (if (1 ≤ t ∧ t ≤ 9999) ∧ (0 ≤ u ∧ u ≤ 999) ∧ (1 ≤ v ∧ v ≤ 999) then (if n = 12 then 3 else 0) else 2) else 1
def tlM (T : St) (n r t u v : Int) : St := up (up (up (up (up T 4 n r) 5 n t) 6 n u) 7 n v) 2 0 (n + 1)
def msC (n nm : Int) (T : St) (z : Int) : Int := if 0 ≤ z ∧ z < n then (if fof (T 4) (inM T) 12 z ≠ -1 ∨ nm = 200 then 2 else 0) else 1
def msM (T : St) (nm z : Int) : St := up (up (up (up T 3 0 (T 3 0 + 1)) 19 nm z) 20 nm (T 3 0 + 1)) 18 0 (nm + 1)
set_option maxRecDepth 100000 in
set_option maxHeartbeats 4000000 in
theorem c_X4_withChain {l : Launch} (hlt : l.stackTraces = false) {D : va_G} {ca : Nat → ClassId} {base : Nat} {am : Nat → Nat} {th : Int} {n nm : Int} {T : St} {w : Wd} (hM : MW base ca am th T w) (hI : MI n nm T) (z : Int) (hz : 0 ≤ z ∧ z < n) : CT l D ca base yX4_withChain cX4_withChain 7 (some .int) 1 0 0 [.ref (am 0), .int (iI (z))] w (fun v w' => v = some (.int (iI (unc (T 4) (T 6) 12 z))) ∧ w = w') (fun _ _ => False) := by
  obtain ⟨hn, hnm, e2, e18, h1t, h3t⟩ := hI.top
  refine CT.mk hlt (by decide +kernel) (by first | exact Nat.le_of_ble_eq_true rfl | simp [lg_sl, cat_rf, cat_i, cat_l, cat_r]) ?_
  intro p e s m args below meth c X htab
  rw [show lv_args 0 [.ref (am 0), .int (iI (z))] = [(0, .ref (am 0)), (1, .int (iI (z)))] from by first | rfl | simp [lv_args, cat_rf, cat_i, cat_l, cat_r]]
  refine j_iconst X (a := 0) dX4_withChain_0 (q := 1) rfl ?_
  refine j_istore_n X (i := 2) dX4_withChain_1 rfl (by decide) (q := 2) rfl (lv' := [(2, .int (iI (0))), (0, .ref (am 0)), (1, .int (iI (z)))]) (by first | rfl | simp [cat_rf, cat_i, cat_l, cat_r]) ?_
  refine j_iload_n X dX4_withChain_2 (q := 3) rfl 2 rfl ?_
  refine j_istore_n X (i := 3) dX4_withChain_3 rfl (by decide) (q := 4) rfl (lv' := [(3, .int (iI (z))), (2, .int (iI (0))), (0, .ref (am 0)), (1, .int (iI (z)))]) (by first | rfl | simp [cat_rf, cat_i, cat_l, cat_r]) ?_
  have loop : ∀ (kk : Nat) (a h : Int), (0 ≤ a ∧ a < n) → (0 ≤ h ∧ h + kk ≤ 12) → ends (T 4) kk a → a = an (T 4) h.toNat z → (∀ j : Nat, j ≤ h.toNat → 0 ≤ an (T 4) j z ∧ an (T 4) j z < n) → J p l e (Rm 1 0 0) s m args below meth c (vx_MQ below (Qn D base (fun v w' => v = some (.int (iI (unc (T 4) (T 6) 12 z))) ∧ w = w')) (Xn D base (fun _ _ => False)) args s 0 0 (fun q => base ≤ q)) D base 7 0 0 4 [(0, .ref (am 0)), (1, .int (iI (z))), (2, .int (iI (h))), (3, .int (iI (a)))] [] w := by
    intro kk
    induction kk using Nat.strongRecOn with
    | ind kk ih =>
      intro a h ha hh hk hv hall
      obtain ⟨j9, rfl, hk9⟩ := ends_pos hk ha.1
      obtain ⟨hr, -⟩ := hI.ins ha.1 ha.2
      refine j_aload_n X dX4_withChain_4 (q := 5) rfl 0 rfl ?_
      refine j_get X (v := .ref (am 4)) fl_X4_7 hM.obj rfl dX4_withChain_5 (q := 8) rfl ?_
      refine j_iload_n X dX4_withChain_8 (q := 9) rfl 3 rfl ?_
      refine jm_iald X hM 4 (by decide) rfl (by omega) (by show _ < (12 : Int); omega) dX4_withChain_9 (q := 10) rfl ?_
      refine j_iconst X (a := -1) dX4_withChain_10 (q := 11) rfl ?_
      refine j_icmp_eq X (tgt := 27) dX4_withChain_11 (by decide) (q := 14) rfl (by omega) (by omega) (fun c_11 => ?_) (fun c_11 => ?_)
      · skip
        refine j_iconst X (a := 0) dX4_withChain_27 (q := 28) rfl ?_
        refine j_istore_n X (i := 3) dX4_withChain_28 rfl (by decide) (q := 29) rfl (lv' := [(3, .int (iI (0))), (0, .ref (am 0)), (1, .int (iI (z))), (2, .int (iI (h)))]) (by first | rfl | simp [cat_rf, cat_i, cat_l, cat_r]) ?_
        refine j_iload_n X dX4_withChain_29 (q := 30) rfl 3 rfl ?_
        refine j_istore X (i := 4) dX4_withChain_30 (by decide) (q := 32) rfl (lv' := [(4, .int (iI (h))), (3, .int (iI (0))), (0, .ref (am 0)), (1, .int (iI (z))), (2, .int (iI (h)))]) (by first | rfl | simp [cat_rf, cat_i, cat_l, cat_r]) ?_
        have hr1 : T 4 (an (T 4) h.toNat z) = -1 := by rw [← hv]; exact c_11
        have loop : ∀ (kk : Nat) (k v : Int), (-1 ≤ k ∧ k ≤ h) → (k + 1).toNat = kk → v = wcv T z h k → J p l e (Rm 1 0 0) s m args below meth c (vx_MQ below (Qn D base (fun v w' => v = some (.int (iI (unc (T 4) (T 6) 12 z))) ∧ w = w')) (Xn D base (fun _ _ => False)) args s 0 0 (fun q => base ≤ q)) D base 7 0 0 32 [(0, .ref (am 0)), (1, .int (iI (z))), (2, .int (iI (h))), (3, .int (iI (v))), (4, .int (iI (k)))] [] w := by
          intro kk
          induction kk using Nat.strongRecOn with
          | ind kk ih =>
            intro k v hk hkk hw
            have hvb := wcv_b hI hk (by omega) hall
            rw [← hw] at hvb
            have ihB := ih
            refine j_iload X dX4_withChain_32 (q := 34) rfl 4 rfl ?_
            refine j_if_lt X (tgt := 110) dX4_withChain_34 (by decide) (q := 37) rfl (by omega) (fun c_34 => ?_) (fun c_34 => ?_)
            · skip
              refine j_iload_n X dX4_withChain_110 (q := 111) rfl 3 rfl ?_
              exact j_iret X rfl dX4_withChain_111 (⟨by rw [hw, show k = -1 by omega, wcv, if_neg (by omega)]; rfl, rfl⟩) (by decide) (by decide)
            · skip
              refine j_iload_n X dX4_withChain_37 (q := 38) rfl 1 rfl ?_
              refine j_istore X (i := 5) dX4_withChain_38 (by decide) (q := 40) rfl (lv' := [(5, .int (iI (z))), (0, .ref (am 0)), (1, .int (iI (z))), (2, .int (iI (h))), (3, .int (iI (v))), (4, .int (iI (k)))]) (by first | rfl | simp [cat_rf, cat_i, cat_l, cat_r]) ?_
              refine j_iconst X (a := 0) dX4_withChain_40 (q := 41) rfl ?_
              refine j_istore X (i := 6) dX4_withChain_41 (by decide) (q := 43) rfl (lv' := [(6, .int (iI (0))), (5, .int (iI (z))), (0, .ref (am 0)), (1, .int (iI (z))), (2, .int (iI (h))), (3, .int (iI (v))), (4, .int (iI (k)))]) (by first | rfl | simp [cat_rf, cat_i, cat_l, cat_r]) ?_
              have loop : ∀ (kk : Nat) (a2 t : Int), (0 ≤ t ∧ t ≤ k) → (k - t).toNat = kk → a2 = an (T 4) t.toNat z → J p l e (Rm 1 0 0) s m args below meth c (vx_MQ below (Qn D base (fun v w' => v = some (.int (iI (unc (T 4) (T 6) 12 z))) ∧ w = w')) (Xn D base (fun _ _ => False)) args s 0 0 (fun q => base ≤ q)) D base 7 0 0 43 [(0, .ref (am 0)), (1, .int (iI (z))), (2, .int (iI (h))), (3, .int (iI (v))), (4, .int (iI (k))), (5, .int (iI (a2))), (6, .int (iI (t)))] [] w := by
                intro kk
                induction kk using Nat.strongRecOn with
                | ind kk ih =>
                  intro a2 t ht hkk3 hv2
                  have ha2 := hall t.toNat (by omega)
                  rw [← hv2] at ha2
                  obtain ⟨hr2, -, h62, -⟩ := hI.ins ha2.1 ha2.2
                  refine j_iload X dX4_withChain_43 (q := 45) rfl 6 rfl ?_
                  refine j_iload X dX4_withChain_45 (q := 47) rfl 4 rfl ?_
                  refine j_icmp_ge X (tgt := 65) dX4_withChain_47 (by decide) (q := 50) rfl (by omega) (by omega) (fun c_47 => ?_) (fun c_47 => ?_)
                  · skip
                    refine j_iload X dX4_withChain_65 (q := 67) rfl 4 rfl ?_
                    refine j_iload_n X dX4_withChain_67 (q := 68) rfl 2 rfl ?_
                    refine j_icmp_ne X (tgt := 81) dX4_withChain_68 (by decide) (q := 71) rfl (by omega) (by omega) (fun c_68 => ?_) (fun c_68 => ?_)
                    · skip
                      refine j_aload_n X dX4_withChain_81 (q := 82) rfl 0 rfl ?_
                      refine j_get X (v := .ref (am 6)) fl_X4_16 hM.obj rfl dX4_withChain_82 (q := 85) rfl ?_
                      refine j_iload X dX4_withChain_85 (q := 87) rfl 5 rfl ?_
                      refine jm_iald X hM 6 (by decide) rfl (by omega) (by show _ < (12 : Int); omega) dX4_withChain_87 (q := 88) rfl ?_
                      refine j_aload_n X dX4_withChain_88 (q := 89) rfl 0 rfl ?_
                      refine j_get X (v := .ref (am 6)) fl_X4_16 hM.obj rfl dX4_withChain_89 (q := 92) rfl ?_
                      refine j_iload X dX4_withChain_92 (q := 94) rfl 5 rfl ?_
                      refine jm_iald X hM 6 (by decide) rfl (by omega) (by show _ < (12 : Int); omega) dX4_withChain_94 (q := 95) rfl ?_
                      refine j_imul X dX4_withChain_95 (q := 96) rfl ?_
                      refine j_iload_n X dX4_withChain_96 (q := 97) rfl 3 rfl ?_
                      refine j_iload_n X dX4_withChain_97 (q := 98) rfl 3 rfl ?_
                      refine j_imul X dX4_withChain_98 (q := 99) rfl ?_
                      refine j_iadd X dX4_withChain_99 (q := 100) rfl ?_
                      have hq1 := sq_r h62
                      have hq2 := sq_r hvb
                      refine j_callS X (As := [.int (iI (((T 6 a2) * (T 6 a2)) + (v * v)))]) (st := [])  (c_X4_root hlt (((T 6 a2) * (T 6 a2)) + (v * v)) (by omega)) ss_X4_135 (by decide) rfl (by first | decide | exact Nat.le_of_ble_eq_true rfl | simp [cat_rf, cat_i, cat_l, cat_r]) dX4_withChain_100 (by decide) (fun _ _ h => h.elim) ?_
                      rintro v9 w9 ⟨rfl, rfl⟩
                      refine j_st (st := [.int (iI (rt (((T 6 a2) * (T 6 a2)) + (v * v))))]) ?_
                      refine j_istore_n X (i := 3) dX4_withChain_103 rfl (by decide) (q := 104) rfl (lv' := [(3, .int (iI (rt (((T 6 a2) * (T 6 a2)) + (v * v))))), (0, .ref (am 0)), (1, .int (iI (z))), (2, .int (iI (h))), (4, .int (iI (k))), (5, .int (iI (a2))), (6, .int (iI (t)))]) (by first | rfl | simp [cat_rf, cat_i, cat_l, cat_r]) ?_
                      refine j_iinc X dX4_withChain_104 4 rfl (by decide) (q := 107) rfl (lv' := [(4, .int (iI (k + (-1)))), (3, .int (iI (rt (((T 6 a2) * (T 6 a2)) + (v * v))))), (0, .ref (am 0)), (1, .int (iI (z))), (2, .int (iI (h))), (5, .int (iI (a2))), (6, .int (iI (t)))]) (by first | rfl | simp [cat_rf, cat_i, cat_l, cat_r]) ?_
                      refine j_goto X (tgt := 32) dX4_withChain_107 (by decide) ?_
                      have hka : a2 = an (T 4) k.toNat z := by rw [hv2, show t = k by omega]
                      exact j_lv (ihB ((k + 1 - 1).toNat) (by omega) (k - 1) (rt (((T 6 a2) * (T 6 a2)) + (v * v))) (by omega) (by omega) (by rw [hka]; exact wc2 (by omega) (by omega) (hall _ (by omega)).1 hw)) [2, 3, 4, 1, 0] (by rfl)
                    · skip
                      refine j_aload_n X dX4_withChain_71 (q := 72) rfl 0 rfl ?_
                      refine j_get X (v := .ref (am 6)) fl_X4_16 hM.obj rfl dX4_withChain_72 (q := 75) rfl ?_
                      refine j_iload X dX4_withChain_75 (q := 77) rfl 5 rfl ?_
                      refine jm_iald X hM 6 (by decide) rfl (by omega) (by show _ < (12 : Int); omega) dX4_withChain_77 (q := 78) rfl ?_
                      refine j_goto X (tgt := 103) dX4_withChain_78 (by decide) ?_
                      refine j_istore_n X (i := 3) dX4_withChain_103 rfl (by decide) (q := 104) rfl (lv' := [(3, .int (iI (T 6 a2))), (0, .ref (am 0)), (1, .int (iI (z))), (2, .int (iI (h))), (4, .int (iI (k))), (5, .int (iI (a2))), (6, .int (iI (t)))]) (by first | rfl | simp [cat_rf, cat_i, cat_l, cat_r]) ?_
                      refine j_iinc X dX4_withChain_104 4 rfl (by decide) (q := 107) rfl (lv' := [(4, .int (iI (k + (-1)))), (3, .int (iI (T 6 a2))), (0, .ref (am 0)), (1, .int (iI (z))), (2, .int (iI (h))), (5, .int (iI (a2))), (6, .int (iI (t)))]) (by first | rfl | simp [cat_rf, cat_i, cat_l, cat_r]) ?_
                      refine j_goto X (tgt := 32) dX4_withChain_107 (by decide) ?_
                      have hka : a2 = an (T 4) k.toNat z := by rw [hv2, show t = k by omega]
                      exact j_lv (ihB ((k + 1 - 1).toNat) (by omega) (k - 1) (T 6 a2) (by omega) (by omega) (by have hkh : k = h := c_68; rw [hka, hkh]; exact wc1 (by omega) (hall _ (by omega)).1 hr1 (hI.ins (hall h.toNat (by omega)).1 (hall h.toNat (by omega)).2).2.2.1)) [2, 3, 4, 1, 0] (by rfl)
                  · skip
                    refine j_aload_n X dX4_withChain_50 (q := 51) rfl 0 rfl ?_
                    refine j_get X (v := .ref (am 4)) fl_X4_7 hM.obj rfl dX4_withChain_51 (q := 54) rfl ?_
                    refine j_iload X dX4_withChain_54 (q := 56) rfl 5 rfl ?_
                    refine jm_iald X hM 4 (by decide) rfl (by omega) (by show _ < (12 : Int); omega) dX4_withChain_56 (q := 57) rfl ?_
                    refine j_istore X (i := 5) dX4_withChain_57 (by decide) (q := 59) rfl (lv' := [(5, .int (iI (T 4 a2))), (0, .ref (am 0)), (1, .int (iI (z))), (2, .int (iI (h))), (3, .int (iI (v))), (4, .int (iI (k))), (6, .int (iI (t)))]) (by first | rfl | simp [cat_rf, cat_i, cat_l, cat_r]) ?_
                    refine j_iinc X dX4_withChain_59 6 rfl (by decide) (q := 62) rfl (lv' := [(6, .int (iI (t + 1))), (5, .int (iI (T 4 a2))), (0, .ref (am 0)), (1, .int (iI (z))), (2, .int (iI (h))), (3, .int (iI (v))), (4, .int (iI (k)))]) (by first | rfl | simp [cat_rf, cat_i, cat_l, cat_r]) ?_
                    refine j_goto X (tgt := 43) dX4_withChain_62 (by decide) ?_
                    exact j_lv (ih ((k - (t + 1)).toNat) (by omega) (T 4 a2) (t + 1) (by omega) rfl (by rw [show (t + 1).toNat = t.toNat + 1 by omega, an_s, ← hv2])) [2, 3, 4, 5, 6, 1, 0] rfl
              exact j_lv (loop _ z 0 (by omega) rfl rfl) [2, 3, 4, 5, 6, 1, 0] rfl
        exact j_lv (loop _ h 0 (by omega) rfl (by rw [wcv, if_pos rfl])) [2, 3, 4, 1, 0] rfl
      · skip
        refine j_iinc X dX4_withChain_14 2 rfl (by decide) (q := 17) rfl (lv' := [(2, .int (iI (h + 1))), (0, .ref (am 0)), (1, .int (iI (z))), (3, .int (iI (a)))]) (by first | rfl | simp [cat_rf, cat_i, cat_l, cat_r]) ?_
        refine j_aload_n X dX4_withChain_17 (q := 18) rfl 1 rfl ?_
        refine j_get X (v := .ref (am 4)) fl_X4_7 hM.obj rfl dX4_withChain_18 (q := 21) rfl ?_
        refine j_iload_n X dX4_withChain_21 (q := 22) rfl 3 rfl ?_
        refine jm_iald X hM 4 (by decide) rfl (by omega) (by show _ < (12 : Int); omega) dX4_withChain_22 (q := 23) rfl ?_
        refine j_istore_n X (i := 3) dX4_withChain_23 rfl (by decide) (q := 24) rfl (lv' := [(3, .int (iI (T 4 a))), (2, .int (iI (h + 1))), (0, .ref (am 0)), (1, .int (iI (z)))]) (by first | rfl | simp [cat_rf, cat_i, cat_l, cat_r]) ?_
        refine j_goto X (tgt := 4) dX4_withChain_24 (by decide) ?_
        exact j_lv (ih j9 (by omega) (T 4 a) (h + 1) (by omega) (by omega) hk9 (by rw [show (h + 1).toNat = h.toNat + 1 by omega, an_s, ← hv]) (fun j hj => by by_cases hq : j ≤ h.toNat; exact hall j hq; rw [show j = h.toNat + 1 by omega, an_s, ← hv]; omega)) [2, 3, 1, 0] rfl
  exact j_lv (loop 12 z 0 hz (by decide) (hI.ends (by omega) hz.2) rfl (fun j hj => by rw [show j = 0 from Nat.le_zero.mp hj]; exact hz)) [2, 3, 1, 0] rfl

set_option maxRecDepth 100000 in
set_option maxHeartbeats 4000000 in
theorem c_X4_uncertainty {l : Launch} (hlt : l.stackTraces = false) {D : va_G} {ca : Nat → ClassId} {base : Nat} {am : Nat → Nat} {th : Int} {n nm : Int} {T : St} {w : Wd} (hM : MW base ca am th T w) (hI : MI n nm T) (z : Int) (hz : -2147483648 ≤ z ∧ z ≤ 2147483647) : CT l D ca base yX4_uncertainty cX4_uncertainty 2 (some .int) 3 0 0 [.ref (am 0), .int (iI (z))] w (fun v w' => v = some (.int (iI (if 0 ≤ z ∧ z < n then unc (T 4) (T 6) 12 z else 0))) ∧ MW base ca am (if 0 ≤ z ∧ z < n then 0 else 1) T w' ∧ Fr 1 w w') (fun _ _ => False) := by
  obtain ⟨hn, hnm, e2, e18, h1t, h3t⟩ := hI.top
  refine CT.mk hlt (by decide +kernel) (by first | exact Nat.le_of_ble_eq_true rfl | simp [lg_sl, cat_rf, cat_i, cat_l, cat_r]) ?_
  intro p e s m args below meth c X htab
  rw [show lv_args 0 [.ref (am 0), .int (iI (z))] = [(0, .ref (am 0)), (1, .int (iI (z)))] from by first | rfl | simp [lv_args, cat_rf, cat_i, cat_l, cat_r]]
  refine j_aload_n X dX4_uncertainty_0 (q := 1) rfl 0 rfl ?_
  refine j_iload_n X dX4_uncertainty_1 (q := 2) rfl 1 rfl ?_
  refine j_callV X (As := [.int (iI (z))]) (st := []) hM.obj rfl (c_X4_isAsked hlt hM hI z hz) sv_X4_121 (by decide) rfl (by first | decide | exact Nat.le_of_ble_eq_true rfl | simp [cat_rf, cat_i, cat_l, cat_r]) dX4_uncertainty_2 (by decide) (fun _ _ h => h.elim) ?_
  rintro v9 w9 ⟨rfl, hM9, hF9⟩
  refine j_st (st := [.int (iI (tf (0 ≤ z ∧ z < n)))]) ?_
  have hb9 := tf_b (0 ≤ z ∧ z < n)
  refine j_if_eq X (tgt := 16) dX4_uncertainty_5 (by decide) (q := 8) rfl (by omega) (fun c_5 => ?_) (fun c_5 => ?_)
  · skip
    have k1 : ¬ (0 ≤ z ∧ z < n) := tf_0 c_5
    rw [if_neg k1] at hM9
    refine j_iconst X (a := 0) dX4_uncertainty_16 (q := 17) rfl ?_
    exact j_iret X rfl dX4_uncertainty_17 (⟨by rw [if_neg k1], by rw [if_neg k1]; exact hM9, hF9⟩) (by decide) (by decide)
  · skip
    have k1 : 0 ≤ z ∧ z < n := tf_1 c_5
    rw [if_pos k1] at hM9
    obtain ⟨t_1_0, t_1_1, t_1_2, t_1_3, t_1_4, t_1_5, t_1_6, t_1_7, t_1_8, t_1_9, t_1_10, t_1_11⟩ := hI.ins (i := z) k1.1 k1.2
    refine j_aload_n X dX4_uncertainty_8 (q := 9) rfl 0 rfl ?_
    refine j_iload_n X dX4_uncertainty_9 (q := 10) rfl 1 rfl ?_
    refine j_callV X (As := [.int (iI (z))]) (st := []) hM9.obj rfl (c_X4_withChain hlt hM9 hI z k1) sv_X4_138 (by decide) rfl (by first | decide | exact Nat.le_of_ble_eq_true rfl | simp [cat_rf, cat_i, cat_l, cat_r]) dX4_uncertainty_10 (by decide) (fun _ _ h => h.elim) ?_
    rintro v9 w9 ⟨rfl, rfl⟩
    refine j_st (st := [.int (iI (unc (T 4) (T 6) 12 z))]) ?_
    refine j_goto X (tgt := 17) dX4_uncertainty_13 (by decide) ?_
    exact j_iret X rfl dX4_uncertainty_17 (⟨by rw [if_pos k1], by rw [if_pos k1]; exact hM9, hF9⟩) (by decide) (by decide)

set_option maxRecDepth 100000 in
set_option maxHeartbeats 4000000 in
theorem c_X4_limit {l : Launch} (hlt : l.stackTraces = false) {D : va_G} {ca : Nat → ClassId} {base : Nat} {am : Nat → Nat} {th : Int} {n nm : Int} {T : St} {w : Wd} (hM : MW base ca am th T w) (hI : MI n nm T) (z : Int) (hz : -2147483648 ≤ z ∧ z ≤ 2147483647) : CT l D ca base yX4_limit cX4_limit 3 (some .int) 3 0 0 [.ref (am 0), .int (iI (z))] w (fun v w' => v = some (.int (iI (if 0 ≤ z ∧ z < n then (if T 5 z - unc (T 4) (T 6) 12 z < 0 then 0 else T 5 z - unc (T 4) (T 6) 12 z) else 0))) ∧ MW base ca am (if 0 ≤ z ∧ z < n then 0 else 1) T w' ∧ Fr 1 w w') (fun _ _ => False) := by
  obtain ⟨hn, hnm, e2, e18, h1t, h3t⟩ := hI.top
  refine CT.mk hlt (by decide +kernel) (by first | exact Nat.le_of_ble_eq_true rfl | simp [lg_sl, cat_rf, cat_i, cat_l, cat_r]) ?_
  intro p e s m args below meth c X htab
  rw [show lv_args 0 [.ref (am 0), .int (iI (z))] = [(0, .ref (am 0)), (1, .int (iI (z)))] from by first | rfl | simp [lv_args, cat_rf, cat_i, cat_l, cat_r]]
  refine j_aload_n X dX4_limit_0 (q := 1) rfl 0 rfl ?_
  refine j_iload_n X dX4_limit_1 (q := 2) rfl 1 rfl ?_
  refine j_callV X (As := [.int (iI (z))]) (st := []) hM.obj rfl (c_X4_isAsked hlt hM hI z hz) sv_X4_121 (by decide) rfl (by first | decide | exact Nat.le_of_ble_eq_true rfl | simp [cat_rf, cat_i, cat_l, cat_r]) dX4_limit_2 (by decide) (fun _ _ h => h.elim) ?_
  rintro v9 w9 ⟨rfl, hM9, hF9⟩
  refine j_st (st := [.int (iI (tf (0 ≤ z ∧ z < n)))]) ?_
  have hb9 := tf_b (0 ≤ z ∧ z < n)
  refine j_if_ne X (tgt := 10) dX4_limit_5 (by decide) (q := 8) rfl (by omega) (fun c_5 => ?_) (fun c_5 => ?_)
  · skip
    have k1 : 0 ≤ z ∧ z < n := tf_1 c_5
    rw [if_pos k1] at hM9
    obtain ⟨t_2_0, t_2_1, t_2_2, t_2_3, t_2_4, t_2_5, t_2_6, t_2_7, t_2_8, t_2_9, t_2_10, t_2_11⟩ := hI.ins (i := z) k1.1 k1.2
    refine j_aload_n X dX4_limit_10 (q := 11) rfl 0 rfl ?_
    refine j_get X (v := .ref (am 5)) fl_X4_13 hM9.obj rfl dX4_limit_11 (q := 14) rfl ?_
    refine j_iload_n X dX4_limit_14 (q := 15) rfl 1 rfl ?_
    refine jm_iald X hM9 5 (by decide) rfl (by omega) (by show _ < (12 : Int); omega) dX4_limit_15 (q := 16) rfl ?_
    refine j_aload_n X dX4_limit_16 (q := 17) rfl 0 rfl ?_
    refine j_iload_n X dX4_limit_17 (q := 18) rfl 1 rfl ?_
    refine j_callV X (As := [.int (iI (z))]) (st := [.int (iI (T 5 z))]) hM9.obj rfl (c_X4_withChain hlt hM9 hI z k1) sv_X4_138 (by decide) rfl (by first | decide | exact Nat.le_of_ble_eq_true rfl | simp [cat_rf, cat_i, cat_l, cat_r]) dX4_limit_18 (by decide) (fun _ _ h => h.elim) ?_
    rintro v9 w9 ⟨rfl, rfl⟩
    refine j_st (st := [.int (iI (unc (T 4) (T 6) 12 z)), .int (iI (T 5 z))]) ?_
    have hub := unc_b (ref := T 4) (own := T 6) (n := n) (fun i a b => by
      obtain ⟨g1, -, g2, -⟩ := hI.ins a b
      exact ⟨g1, g2⟩) 12 z (by decide) (by omega) k1.2
    refine j_isub X dX4_limit_21 (q := 22) rfl ?_
    refine j_istore_n X (i := 2) dX4_limit_22 rfl (by decide) (q := 23) rfl (lv' := [(2, .int (iI ((T 5 z) - (unc (T 4) (T 6) 12 z)))), (0, .ref (am 0)), (1, .int (iI (z)))]) (by first | rfl | simp [cat_rf, cat_i, cat_l, cat_r]) ?_
    refine j_iload_n X dX4_limit_23 (q := 24) rfl 0 rfl ?_
    refine j_if_ge X (tgt := 31) dX4_limit_24 (by decide) (q := 27) rfl (by omega) (fun c_24 => ?_) (fun c_24 => ?_)
    · skip
      refine j_iload_n X dX4_limit_31 (q := 32) rfl 0 rfl ?_
      exact j_iret X rfl dX4_limit_32 (⟨by rw [if_pos k1, if_neg (by omega)], by rw [if_pos k1]; exact hM9, hF9⟩) (by decide) (by decide)
    · skip
      refine j_iconst X (a := 0) dX4_limit_27 (q := 28) rfl ?_
      refine j_goto X (tgt := 32) dX4_limit_28 (by decide) ?_
      exact j_iret X rfl dX4_limit_32 (⟨by rw [if_pos k1, if_pos (by omega)], by rw [if_pos k1]; exact hM9, hF9⟩) (by decide) (by decide)
  · skip
    have k1 : ¬ (0 ≤ z ∧ z < n) := tf_0 c_5
    rw [if_neg k1] at hM9
    refine j_iconst X (a := 0) dX4_limit_8 (q := 9) rfl ?_
    exact j_iret X rfl dX4_limit_9 (⟨by rw [if_neg k1], by rw [if_neg k1]; exact hM9, hF9⟩) (by decide) (by decide)

set_option maxRecDepth 100000 in
set_option maxHeartbeats 4000000 in
theorem c_X4_calledNow {l : Launch} (hlt : l.stackTraces = false) {D : va_G} {ca : Nat → ClassId} {base : Nat} {am : Nat → Nat} {th : Int} {n nm : Int} {T : St} {w : Wd} (hM : MW base ca am th T w) (hI : MI n nm T) : CT l D ca base yX4_calledNow cX4_calledNow 3 (some .int) 0 0 0 [.ref (am 0)] w (fun v w' => v = some (.int (iI (sm (T 21) nm.toNat))) ∧ w = w') (fun _ _ => False) := by
  obtain ⟨hn, hnm, e2, e18, h1t, h3t⟩ := hI.top
  refine CT.mk hlt (by decide +kernel) (by first | exact Nat.le_of_ble_eq_true rfl | simp [lg_sl, cat_rf, cat_i, cat_l, cat_r]) ?_
  intro p e s m args below meth c X htab
  rw [show lv_args 0 [.ref (am 0)] = [(0, .ref (am 0))] from by first | rfl | simp [lv_args, cat_rf, cat_i, cat_l, cat_r]]
  refine j_iconst X (a := 0) dX4_calledNow_0 (q := 1) rfl ?_
  refine j_istore_n X (i := 1) dX4_calledNow_1 rfl (by decide) (q := 2) rfl (lv' := [(1, .int (iI (0))), (0, .ref (am 0))]) (by first | rfl | simp [cat_rf, cat_i, cat_l, cat_r]) ?_
  refine j_iconst X (a := 0) dX4_calledNow_2 (q := 3) rfl ?_
  refine j_istore_n X (i := 2) dX4_calledNow_3 rfl (by decide) (q := 4) rfl (lv' := [(2, .int (iI (0))), (1, .int (iI (0))), (0, .ref (am 0))]) (by first | rfl | simp [cat_rf, cat_i, cat_l, cat_r]) ?_
  have loop : ∀ (kk : Nat) (i acc : Int), (0 ≤ i ∧ i ≤ nm) → (0 ≤ acc ∧ acc ≤ i) → (nm - i).toNat = kk → acc = sm (T 21) i.toNat → J p l e (Rm 0 0 0) s m args below meth c (vx_MQ below (Qn D base (fun v w' => v = some (.int (iI (sm (T 21) nm.toNat))) ∧ w = w')) (Xn D base (fun _ _ => False)) args s 0 0 (fun q => base ≤ q)) D base 3 0 0 4 [(0, .ref (am 0)), (1, .int (iI (acc))), (2, .int (iI (i)))] [] w := by
    intro kk
    induction kk using Nat.strongRecOn with
    | ind kk ih =>
      intro i acc hi hac hkk hv
      refine j_iload_n X dX4_calledNow_4 (q := 5) rfl 2 rfl ?_
      refine j_aload_n X dX4_calledNow_5 (q := 6) rfl 0 rfl ?_
      refine j_get X (v := .int (iI (T 18 0))) fl_X4_89 hM.obj rfl dX4_calledNow_6 (q := 9) rfl ?_
      refine j_icmp_ge X (tgt := 35) dX4_calledNow_9 (by decide) (q := 12) rfl (by omega) (by omega) (fun c_9 => ?_) (fun c_9 => ?_)
      · skip
        refine j_iload_n X dX4_calledNow_35 (q := 36) rfl 1 rfl ?_
        exact j_iret X rfl dX4_calledNow_36 (⟨by rw [hv, show i = nm by omega], rfl⟩) (by decide) (by decide)
      · skip
        obtain ⟨-, -, hq21⟩ := hI.mea hi.1 (by omega)
        refine j_iload_n X dX4_calledNow_12 (q := 13) rfl 1 rfl ?_
        refine j_aload_n X dX4_calledNow_13 (q := 14) rfl 0 rfl ?_
        refine j_get X (v := .ref (am 21)) fl_X4_59 hM.obj rfl dX4_calledNow_14 (q := 17) rfl ?_
        refine j_iload_n X dX4_calledNow_17 (q := 18) rfl 2 rfl ?_
        refine jm_zald X hM 21 (by decide) rfl (by omega) (by show _ < (200 : Int); omega) dX4_calledNow_18 (q := 19) rfl ?_
        refine j_if_eq X (tgt := 26) dX4_calledNow_19 (by decide) (q := 22) rfl (by omega) (fun c_19 => ?_) (fun c_19 => ?_)
        · skip
          refine j_iconst X (a := 0) dX4_calledNow_26 (q := 27) rfl ?_
          refine j_iadd X dX4_calledNow_27 (q := 28) rfl ?_
          refine j_istore_n X (i := 1) dX4_calledNow_28 rfl (by decide) (q := 29) rfl (lv' := [(1, .int (iI (acc + 0))), (0, .ref (am 0)), (2, .int (iI (i)))]) (by first | rfl | simp [cat_rf, cat_i, cat_l, cat_r]) ?_
          refine j_iinc X dX4_calledNow_29 2 rfl (by decide) (q := 32) rfl (lv' := [(2, .int (iI (i + 1))), (1, .int (iI (acc + 0))), (0, .ref (am 0))]) (by first | rfl | simp [cat_rf, cat_i, cat_l, cat_r]) ?_
          refine j_goto X (tgt := 4) dX4_calledNow_32 (by decide) ?_
          exact j_lv (ih ((nm - (i + 1)).toNat) (by omega) (i + 1) _ (by omega) (by omega) rfl (by rw [sm_s hi.1]; omega)) [2, 1, 0] rfl
        · skip
          refine j_iconst X (a := 1) dX4_calledNow_22 (q := 23) rfl ?_
          refine j_goto X (tgt := 27) dX4_calledNow_23 (by decide) ?_
          refine j_iadd X dX4_calledNow_27 (q := 28) rfl ?_
          refine j_istore_n X (i := 1) dX4_calledNow_28 rfl (by decide) (q := 29) rfl (lv' := [(1, .int (iI (acc + 1))), (0, .ref (am 0)), (2, .int (iI (i)))]) (by first | rfl | simp [cat_rf, cat_i, cat_l, cat_r]) ?_
          refine j_iinc X dX4_calledNow_29 2 rfl (by decide) (q := 32) rfl (lv' := [(2, .int (iI (i + 1))), (1, .int (iI (acc + 1))), (0, .ref (am 0))]) (by first | rfl | simp [cat_rf, cat_i, cat_l, cat_r]) ?_
          refine j_goto X (tgt := 4) dX4_calledNow_32 (by decide) ?_
          exact j_lv (ih ((nm - (i + 1)).toNat) (by omega) (i + 1) _ (by omega) (by omega) rfl (by rw [sm_s hi.1]; omega)) [2, 1, 0] rfl
  exact j_lv (loop _ 0 0 (by omega) (by decide) rfl rfl) [2, 1, 0] rfl

set_option maxRecDepth 100000 in
set_option maxHeartbeats 4000000 in
theorem c_X4_calledBack {l : Launch} (hlt : l.stackTraces = false) {D : va_G} {ca : Nat → ClassId} {base : Nat} {am : Nat → Nat} {th : Int} {n nm : Int} {T : St} {w : Wd} (hM : MW base ca am th T w) (hI : MI n nm T) : CT l D ca base yX4_calledBack cX4_calledBack 1 (some .int) 1 0 0 [.ref (am 0)] w (fun v w' => v = some (.int (iI (sm (T 21) nm.toNat))) ∧ MW base ca am 0 T w' ∧ Fr 1 w w') (fun _ _ => False) := by
  obtain ⟨hn, hnm, e2, e18, h1t, h3t⟩ := hI.top
  refine CT.mk hlt (by decide +kernel) (by first | exact Nat.le_of_ble_eq_true rfl | simp [lg_sl, cat_rf, cat_i, cat_l, cat_r]) ?_
  intro p e s m args below meth c X htab
  rw [show lv_args 0 [.ref (am 0)] = [(0, .ref (am 0))] from by first | rfl | simp [lv_args, cat_rf, cat_i, cat_l, cat_r]]
  refine j_aload_n X dX4_calledBack_0 (q := 1) rfl 0 rfl ?_
  refine j_iconst X (a := 0) dX4_calledBack_1 (q := 2) rfl ?_
  refine jm_put0 X fp_X4_62 hM dX4_calledBack_2 (q := 5) rfl (fun w_3 hMw_3 hFw_3 => ?_)
  refine j_aload_n X dX4_calledBack_5 (q := 6) rfl 0 rfl ?_
  refine j_callV X (As := []) (st := []) hMw_3.obj rfl (c_X4_calledNow hlt hMw_3 hI) sv_X4_141 (by decide) rfl (by first | decide | exact Nat.le_of_ble_eq_true rfl | simp [cat_rf, cat_i, cat_l, cat_r]) dX4_calledBack_6 (by decide) (fun _ _ h => h.elim) ?_
  rintro v9 w9 ⟨rfl, rfl⟩
  refine j_st (st := [.int (iI (sm (T 21) nm.toNat))]) ?_
  exact j_iret X rfl dX4_calledBack_9 (⟨rfl, hMw_3, hFw_3⟩) (by decide) (by decide)

set_option maxRecDepth 100000 in
set_option maxHeartbeats 4000000 in
theorem c_X4_calledBackByLog {l : Launch} (hlt : l.stackTraces = false) {D : va_G} {ca : Nat → ClassId} {base : Nat} {am : Nat → Nat} {th : Int} {n nm : Int} {T : St} {w : Wd} (hM : MW base ca am th T w) (hI : MI n nm T) : CT l D ca base yX4_calledBackByLog cX4_calledBackByLog 1 (some .int) 1 0 0 [.ref (am 0)] w (fun v w' => v = some (.int (iI (sm (T 21) nm.toNat))) ∧ MW base ca am 0 T w' ∧ Fr 1 w w') (fun _ _ => False) := by
  obtain ⟨hn, hnm, e2, e18, h1t, h3t⟩ := hI.top
  refine CT.mk hlt (by decide +kernel) (by first | exact Nat.le_of_ble_eq_true rfl | simp [lg_sl, cat_rf, cat_i, cat_l, cat_r]) ?_
  intro p e s m args below meth c X htab
  rw [show lv_args 0 [.ref (am 0)] = [(0, .ref (am 0))] from by first | rfl | simp [lv_args, cat_rf, cat_i, cat_l, cat_r]]
  refine j_aload_n X dX4_calledBackByLog_0 (q := 1) rfl 0 rfl ?_
  refine j_iconst X (a := 0) dX4_calledBackByLog_1 (q := 2) rfl ?_
  refine jm_put0 X fp_X4_62 hM dX4_calledBackByLog_2 (q := 5) rfl (fun w_4 hMw_4 hFw_4 => ?_)
  refine j_aload_n X dX4_calledBackByLog_5 (q := 6) rfl 0 rfl ?_
  refine j_callV X (As := []) (st := []) hMw_4.obj rfl (c_X4_calledNow hlt hMw_4 hI) sv_X4_141 (by decide) rfl (by first | decide | exact Nat.le_of_ble_eq_true rfl | simp [cat_rf, cat_i, cat_l, cat_r]) dX4_calledBackByLog_6 (by decide) (fun _ _ h => h.elim) ?_
  rintro v9 w9 ⟨rfl, rfl⟩
  refine j_st (st := [.int (iI (sm (T 21) nm.toNat))]) ?_
  exact j_iret X rfl dX4_calledBackByLog_9 (⟨rfl, hMw_4, hFw_4⟩) (by decide) (by decide)

set_option maxRecDepth 100000 in
set_option maxHeartbeats 4000000 in
theorem c_X4_isCalledBack {l : Launch} (hlt : l.stackTraces = false) {D : va_G} {ca : Nat → ClassId} {base : Nat} {am : Nat → Nat} {th : Int} {n nm : Int} {T : St} {w : Wd} (hM : MW base ca am th T w) (hI : MI n nm T) (z : Int) (hz : -2147483648 ≤ z ∧ z ≤ 2147483647) : CT l D ca base yX4_isCalledBack cX4_isCalledBack 2 (some .boolean) 1 0 0 [.ref (am 0), .int (iI (z))] w (fun v w' => v = some (.int (iI (if cbC nm z = 0 then T 21 z else 0))) ∧ MW base ca am (cbC nm z) T w' ∧ Fr 1 w w') (fun _ _ => False) := by
  obtain ⟨hn, hnm, e2, e18, h1t, h3t⟩ := hI.top
  refine CT.mk hlt (by decide +kernel) (by first | exact Nat.le_of_ble_eq_true rfl | simp [lg_sl, cat_rf, cat_i, cat_l, cat_r]) ?_
  intro p e s m args below meth c X htab
  rw [show lv_args 0 [.ref (am 0), .int (iI (z))] = [(0, .ref (am 0)), (1, .int (iI (z)))] from by first | rfl | simp [lv_args, cat_rf, cat_i, cat_l, cat_r]]
  refine j_aload_n X dX4_isCalledBack_0 (q := 1) rfl 0 rfl ?_
  refine j_iload_n X dX4_isCalledBack_1 (q := 2) rfl 1 rfl ?_
  refine j_if_lt X (tgt := 17) dX4_isCalledBack_2 (by decide) (q := 5) rfl (by omega) (fun c_2 => ?_) (fun c_2 => ?_)
  · skip
    refine j_iconst X (a := 1) dX4_isCalledBack_17 (q := 18) rfl ?_
    refine j_callV X (As := [.int (iI (1))]) (st := []) hM.obj rfl (c_X4_holds hlt hM hI (1) (by decide)) sv_X4_73 (by decide) rfl (by first | decide | exact Nat.le_of_ble_eq_true rfl | simp [cat_rf, cat_i, cat_l, cat_r]) dX4_isCalledBack_18 (by decide) (fun _ _ h => h.elim) ?_
    rintro v9 w9 ⟨rfl, hM9, hF9⟩
    refine j_st (st := [.int (iI (tf (((1) : Int) = 0)))]) ?_
    have hx : cbC nm z = 1 := by unfold cbC; (repeat' split) <;> omega
    rw [← hx] at hM9
    have hb9 := tf_b (((1) : Int) = 0)
    refine j_if_eq X (tgt := 37) dX4_isCalledBack_21 (by decide) (q := 24) rfl (by omega) (fun c_21 => ?_) (fun c_21 => ?_)
    · skip
      refine j_iconst X (a := 0) dX4_isCalledBack_37 (q := 38) rfl ?_
      exact j_zret X rfl (by first | exact Or.inl rfl | exact Or.inr rfl) dX4_isCalledBack_38 (⟨by rw [hx]; rfl, hM9, hF9⟩) (by decide) (by decide)
    · skip
      exact absurd c_21 (by decide)
  · skip
    refine j_iload_n X dX4_isCalledBack_5 (q := 6) rfl 1 rfl ?_
    refine j_aload_n X dX4_isCalledBack_6 (q := 7) rfl 0 rfl ?_
    refine j_get X (v := .int (iI (T 18 0))) fl_X4_89 hM.obj rfl dX4_isCalledBack_7 (q := 10) rfl ?_
    refine j_icmp_ge X (tgt := 17) dX4_isCalledBack_10 (by decide) (q := 13) rfl (by omega) (by omega) (fun c_10 => ?_) (fun c_10 => ?_)
    · skip
      refine j_iconst X (a := 1) dX4_isCalledBack_17 (q := 18) rfl ?_
      refine j_callV X (As := [.int (iI (1))]) (st := []) hM.obj rfl (c_X4_holds hlt hM hI (1) (by decide)) sv_X4_73 (by decide) rfl (by first | decide | exact Nat.le_of_ble_eq_true rfl | simp [cat_rf, cat_i, cat_l, cat_r]) dX4_isCalledBack_18 (by decide) (fun _ _ h => h.elim) ?_
      rintro v9 w9 ⟨rfl, hM9, hF9⟩
      refine j_st (st := [.int (iI (tf (((1) : Int) = 0)))]) ?_
      have hx : cbC nm z = 1 := by unfold cbC; (repeat' split) <;> omega
      rw [← hx] at hM9
      have hb9 := tf_b (((1) : Int) = 0)
      refine j_if_eq X (tgt := 37) dX4_isCalledBack_21 (by decide) (q := 24) rfl (by omega) (fun c_21 => ?_) (fun c_21 => ?_)
      · skip
        refine j_iconst X (a := 0) dX4_isCalledBack_37 (q := 38) rfl ?_
        exact j_zret X rfl (by first | exact Or.inl rfl | exact Or.inr rfl) dX4_isCalledBack_38 (⟨by rw [hx]; rfl, hM9, hF9⟩) (by decide) (by decide)
      · skip
        exact absurd c_21 (by decide)
    · skip
      refine j_iconst X (a := 0) dX4_isCalledBack_13 (q := 14) rfl ?_
      refine j_goto X (tgt := 18) dX4_isCalledBack_14 (by decide) ?_
      refine j_callV X (As := [.int (iI (0))]) (st := []) hM.obj rfl (c_X4_holds hlt hM hI (0) (by decide)) sv_X4_73 (by decide) rfl (by first | decide | exact Nat.le_of_ble_eq_true rfl | simp [cat_rf, cat_i, cat_l, cat_r]) dX4_isCalledBack_18 (by decide) (fun _ _ h => h.elim) ?_
      rintro v9 w9 ⟨rfl, hM9, hF9⟩
      refine j_st (st := [.int (iI (tf (((0) : Int) = 0)))]) ?_
      have hx : cbC nm z = 0 := by unfold cbC; (repeat' split) <;> omega
      rw [← hx] at hM9
      have hb9 := tf_b (((0) : Int) = 0)
      refine j_if_eq X (tgt := 37) dX4_isCalledBack_21 (by decide) (q := 24) rfl (by omega) (fun c_21 => ?_) (fun c_21 => ?_)
      · skip
        exact absurd c_21 (by decide)
      · skip
        obtain ⟨-, -, hq21⟩ := hI.mea (k := z) (by omega) (by omega)
        refine j_aload_n X dX4_isCalledBack_24 (q := 25) rfl 0 rfl ?_
        refine j_get X (v := .ref (am 21)) fl_X4_59 hM9.obj rfl dX4_isCalledBack_25 (q := 28) rfl ?_
        refine j_iload_n X dX4_isCalledBack_28 (q := 29) rfl 1 rfl ?_
        refine jm_zald X hM9 21 (by decide) rfl (by omega) (by show _ < (200 : Int); omega) dX4_isCalledBack_29 (q := 30) rfl ?_
        refine j_if_eq X (tgt := 37) dX4_isCalledBack_30 (by decide) (q := 33) rfl (by omega) (fun c_30 => ?_) (fun c_30 => ?_)
        · skip
          refine j_iconst X (a := 0) dX4_isCalledBack_37 (q := 38) rfl ?_
          exact j_zret X rfl (by first | exact Or.inl rfl | exact Or.inr rfl) dX4_isCalledBack_38 (⟨by rw [hx, if_pos rfl, c_30], hM9, hF9⟩) (by decide) (by decide)
        · skip
          refine j_iconst X (a := 1) dX4_isCalledBack_33 (q := 34) rfl ?_
          refine j_goto X (tgt := 38) dX4_isCalledBack_34 (by decide) ?_
          exact j_zret X rfl (by first | exact Or.inl rfl | exact Or.inr rfl) dX4_isCalledBack_38 (⟨by rw [hx, if_pos rfl, show T 21 z = 1 by omega], hM9, hF9⟩) (by decide) (by decide)

set_option maxRecDepth 100000 in
set_option maxHeartbeats 4000000 in
theorem c_X4_dayOnBench {l : Launch} (hlt : l.stackTraces = false) {D : va_G} {ca : Nat → ClassId} {base : Nat} {am : Nat → Nat} {th : Int} {n nm : Int} {T : St} {w : Wd} (hM : MW base ca am th T w) (hI : MI n nm T) (z : Int) (hz : 0 ≤ z ∧ z < n) (e9 : Int) (he9 : 1 ≤ e9 ∧ e9 ≤ 12) : CT l D ca base yX4_dayOnBench cX4_dayOnBench 6 (some .int) 1 0 0 [.ref (am 0), .int (iI (z)), .int (iI (e9))] w (fun v w' => v = some (.int (iI (dob n T z e9))) ∧ w = w') (fun _ _ => False) := by
  obtain ⟨hn, hnm, e2, e18, h1t, h3t⟩ := hI.top
  refine CT.mk hlt (by decide +kernel) (by first | exact Nat.le_of_ble_eq_true rfl | simp [lg_sl, cat_rf, cat_i, cat_l, cat_r]) ?_
  intro p e s m args below meth c X htab
  rw [show lv_args 0 [.ref (am 0), .int (iI (z)), .int (iI (e9))] = [(0, .ref (am 0)), (1, .int (iI (z))), (2, .int (iI (e9)))] from by first | rfl | simp [lv_args, cat_rf, cat_i, cat_l, cat_r]]
  obtain ⟨t_5_0, t_5_1, t_5_2, t_5_3, t_5_4, t_5_5, t_5_6, t_5_7, t_5_8, t_5_9, t_5_10, t_5_11⟩ := hI.ins (i := z) hz.1 hz.2
  refine j_iconst X (a := 0) dX4_dayOnBench_0 (q := 1) rfl ?_
  refine j_istore_n X (i := 3) dX4_dayOnBench_1 rfl (by decide) (q := 2) rfl (lv' := [(3, .int (iI (0))), (0, .ref (am 0)), (1, .int (iI (z))), (2, .int (iI (e9)))]) (by first | rfl | simp [cat_rf, cat_i, cat_l, cat_r]) ?_
  refine j_iconst X (a := 0) dX4_dayOnBench_2 (q := 3) rfl ?_
  refine j_istore X (i := 4) dX4_dayOnBench_3 (by decide) (q := 5) rfl (lv' := [(4, .int (iI (0))), (3, .int (iI (0))), (0, .ref (am 0)), (1, .int (iI (z))), (2, .int (iI (e9)))]) (by first | rfl | simp [cat_rf, cat_i, cat_l, cat_r]) ?_
  have loop : ∀ (kk : Nat) (i acc : Int), (0 ≤ i ∧ i ≤ n) → (0 ≤ acc ∧ acc ≤ i) → (n - i).toNat = kk → acc = sm (ahm T z) i.toNat → J p l e (Rm 1 0 0) s m args below meth c (vx_MQ below (Qn D base (fun v w' => v = some (.int (iI (dob n T z e9))) ∧ w = w')) (Xn D base (fun _ _ => False)) args s 0 0 (fun q => base ≤ q)) D base 6 0 0 5 [(0, .ref (am 0)), (1, .int (iI (z))), (2, .int (iI (e9))), (3, .int (iI (acc))), (4, .int (iI (i)))] [] w := by
    intro kk
    induction kk using Nat.strongRecOn with
    | ind kk ih =>
      intro i acc hi hac hkk hv
      refine j_iload X dX4_dayOnBench_5 (q := 7) rfl 4 rfl ?_
      refine j_aload_n X dX4_dayOnBench_7 (q := 8) rfl 0 rfl ?_
      refine j_get X (v := .int (iI (T 2 0))) fl_X4_66 hM.obj rfl dX4_dayOnBench_8 (q := 11) rfl ?_
      refine j_icmp_ge X (tgt := 87) dX4_dayOnBench_11 (by decide) (q := 14) rfl (by omega) (by omega) (fun c_11 => ?_) (fun c_11 => ?_)
      · skip
        refine j_aload_n X dX4_dayOnBench_87 (q := 88) rfl 0 rfl ?_
        refine j_get X (v := .int (iI (T 1 0))) fl_X4_80 hM.obj rfl dX4_dayOnBench_88 (q := 91) rfl ?_
        refine j_iload_n X dX4_dayOnBench_91 (q := 92) rfl 3 rfl ?_
        refine j_iload_n X dX4_dayOnBench_92 (q := 93) rfl 2 rfl ?_
        refine j_idiv X (by omega) (by omega) dX4_dayOnBench_93 (q := 94) rfl ?_
        refine j_iadd X dX4_dayOnBench_94 (q := 95) rfl ?_
        exact j_iret X rfl dX4_dayOnBench_95 (⟨by rw [dob, hv, show i = n by omega], rfl⟩) (by decide) (by decide)
      · skip
        obtain ⟨t_6_0, t_6_1, t_6_2, t_6_3, t_6_4, t_6_5, t_6_6, t_6_7, t_6_8, t_6_9, t_6_10, t_6_11⟩ := hI.ins (i := i) hi.1 (by omega)
        refine j_aload_n X dX4_dayOnBench_14 (q := 15) rfl 0 rfl ?_
        refine j_get X (v := .ref (am 11)) fl_X4_31 hM.obj rfl dX4_dayOnBench_15 (q := 18) rfl ?_
        refine j_iload X dX4_dayOnBench_18 (q := 20) rfl 4 rfl ?_
        refine jm_iald X hM 11 (by decide) rfl (by omega) (by show _ < (12 : Int); omega) dX4_dayOnBench_20 (q := 21) rfl ?_
        refine j_aload_n X dX4_dayOnBench_21 (q := 22) rfl 0 rfl ?_
        refine j_get X (v := .ref (am 11)) fl_X4_31 hM.obj rfl dX4_dayOnBench_22 (q := 25) rfl ?_
        refine j_iload_n X dX4_dayOnBench_25 (q := 26) rfl 1 rfl ?_
        refine jm_iald X hM 11 (by decide) rfl (by omega) (by show _ < (12 : Int); omega) dX4_dayOnBench_26 (q := 27) rfl ?_
        refine j_icmp_lt X (tgt := 52) dX4_dayOnBench_27 (by decide) (q := 30) rfl (by omega) (by omega) (fun c_27 => ?_) (fun c_27 => ?_)
        · skip
          refine j_iconst X (a := 1) dX4_dayOnBench_52 (q := 53) rfl ?_
          refine j_goto X (tgt := 57) dX4_dayOnBench_53 (by decide) ?_
          refine j_istore X (i := 5) dX4_dayOnBench_57 (by decide) (q := 59) rfl (lv' := [(5, .int (iI (1))), (0, .ref (am 0)), (1, .int (iI (z))), (2, .int (iI (e9))), (3, .int (iI (acc))), (4, .int (iI (i)))]) (by first | rfl | simp [cat_rf, cat_i, cat_l, cat_r]) ?_
          refine j_iload_n X dX4_dayOnBench_59 (q := 60) rfl 4 rfl ?_
          refine j_aload_n X dX4_dayOnBench_60 (q := 61) rfl 1 rfl ?_
          refine j_iload X dX4_dayOnBench_61 (q := 63) rfl 5 rfl ?_
          refine j_callV X (As := [.int (iI (i))]) (st := [.int (iI (acc))]) hM.obj rfl (c_X4_isCalibrated hlt hM hI i ⟨hi.1, by omega⟩) sv_X4_83 (by decide) rfl (by first | decide | exact Nat.le_of_ble_eq_true rfl | simp [cat_rf, cat_i, cat_l, cat_r]) dX4_dayOnBench_63 (by decide) (fun _ _ h => h.elim) ?_
          rintro v9 w9 ⟨rfl, rfl⟩
          refine j_st (st := [.int (iI (tf (0 < T 8 i))), .int (iI (acc))]) ?_
          have hb8 := tf_b (0 < T 8 i)
          refine j_if_eq X (tgt := 78) dX4_dayOnBench_66 (by decide) (q := 69) rfl (by omega) (fun c_66 => ?_) (fun c_66 => ?_)
          · skip
            have k66 := tf_0 c_66
            refine j_iconst X (a := 0) dX4_dayOnBench_78 (q := 79) rfl ?_
            refine j_iadd X dX4_dayOnBench_79 (q := 80) rfl ?_
            refine j_istore_n X (i := 3) dX4_dayOnBench_80 rfl (by decide) (q := 81) rfl (lv' := [(3, .int (iI (acc + 0))), (5, .int (iI (1))), (0, .ref (am 0)), (1, .int (iI (z))), (2, .int (iI (e9))), (4, .int (iI (i)))]) (by first | rfl | simp [cat_rf, cat_i, cat_l, cat_r]) ?_
            refine j_iinc X dX4_dayOnBench_81 5 rfl (by decide) (q := 84) rfl (lv' := [(4, .int (iI (i + 1))), (3, .int (iI (acc + 0))), (5, .int (iI (1))), (0, .ref (am 0)), (1, .int (iI (z))), (2, .int (iI (e9)))]) (by first | rfl | simp [cat_rf, cat_i, cat_l, cat_r]) ?_
            refine j_goto X (tgt := 5) dX4_dayOnBench_84 (by decide) ?_
            exact j_lv (ih ((n - (i + 1)).toNat) (by omega) (i + 1) _ (by omega) (by omega) rfl (by rw [sm_s hi.1, ahm, tf_f (by omega)]; omega)) [3, 4, 5, 1, 0] rfl
          · skip
            have k66 := tf_1 c_66
            refine j_iload X dX4_dayOnBench_69 (q := 71) rfl 0 rfl ?_
            refine j_if_eq X (tgt := 78) dX4_dayOnBench_71 (by decide) (q := 74) rfl (by omega) (fun c_71 => ?_) (fun c_71 => ?_)
            · skip
              exact absurd c_71 (by decide)
            · skip
              refine j_iconst X (a := 1) dX4_dayOnBench_74 (q := 75) rfl ?_
              refine j_goto X (tgt := 79) dX4_dayOnBench_75 (by decide) ?_
              refine j_iadd X dX4_dayOnBench_79 (q := 80) rfl ?_
              refine j_istore_n X (i := 3) dX4_dayOnBench_80 rfl (by decide) (q := 81) rfl (lv' := [(3, .int (iI (acc + 1))), (5, .int (iI (1))), (0, .ref (am 0)), (1, .int (iI (z))), (2, .int (iI (e9))), (4, .int (iI (i)))]) (by first | rfl | simp [cat_rf, cat_i, cat_l, cat_r]) ?_
              refine j_iinc X dX4_dayOnBench_81 5 rfl (by decide) (q := 84) rfl (lv' := [(4, .int (iI (i + 1))), (3, .int (iI (acc + 1))), (5, .int (iI (1))), (0, .ref (am 0)), (1, .int (iI (z))), (2, .int (iI (e9)))]) (by first | rfl | simp [cat_rf, cat_i, cat_l, cat_r]) ?_
              refine j_goto X (tgt := 5) dX4_dayOnBench_84 (by decide) ?_
              exact j_lv (ih ((n - (i + 1)).toNat) (by omega) (i + 1) _ (by omega) (by omega) rfl (by rw [sm_s hi.1, ahm, tf_t (by omega)]; omega)) [3, 4, 5, 1, 0] rfl
        · skip
          refine j_aload_n X dX4_dayOnBench_30 (q := 31) rfl 0 rfl ?_
          refine j_get X (v := .ref (am 11)) fl_X4_31 hM.obj rfl dX4_dayOnBench_31 (q := 34) rfl ?_
          refine j_iload X dX4_dayOnBench_34 (q := 36) rfl 4 rfl ?_
          refine jm_iald X hM 11 (by decide) rfl (by omega) (by show _ < (12 : Int); omega) dX4_dayOnBench_36 (q := 37) rfl ?_
          refine j_aload_n X dX4_dayOnBench_37 (q := 38) rfl 0 rfl ?_
          refine j_get X (v := .ref (am 11)) fl_X4_31 hM.obj rfl dX4_dayOnBench_38 (q := 41) rfl ?_
          refine j_iload_n X dX4_dayOnBench_41 (q := 42) rfl 1 rfl ?_
          refine jm_iald X hM 11 (by decide) rfl (by omega) (by show _ < (12 : Int); omega) dX4_dayOnBench_42 (q := 43) rfl ?_
          refine j_icmp_ne X (tgt := 56) dX4_dayOnBench_43 (by decide) (q := 46) rfl (by omega) (by omega) (fun c_43 => ?_) (fun c_43 => ?_)
          · skip
            refine j_iconst X (a := 0) dX4_dayOnBench_56 (q := 57) rfl ?_
            refine j_istore X (i := 5) dX4_dayOnBench_57 (by decide) (q := 59) rfl (lv' := [(5, .int (iI (0))), (0, .ref (am 0)), (1, .int (iI (z))), (2, .int (iI (e9))), (3, .int (iI (acc))), (4, .int (iI (i)))]) (by first | rfl | simp [cat_rf, cat_i, cat_l, cat_r]) ?_
            refine j_iload_n X dX4_dayOnBench_59 (q := 60) rfl 4 rfl ?_
            refine j_aload_n X dX4_dayOnBench_60 (q := 61) rfl 1 rfl ?_
            refine j_iload X dX4_dayOnBench_61 (q := 63) rfl 5 rfl ?_
            refine j_callV X (As := [.int (iI (i))]) (st := [.int (iI (acc))]) hM.obj rfl (c_X4_isCalibrated hlt hM hI i ⟨hi.1, by omega⟩) sv_X4_83 (by decide) rfl (by first | decide | exact Nat.le_of_ble_eq_true rfl | simp [cat_rf, cat_i, cat_l, cat_r]) dX4_dayOnBench_63 (by decide) (fun _ _ h => h.elim) ?_
            rintro v9 w9 ⟨rfl, rfl⟩
            refine j_st (st := [.int (iI (tf (0 < T 8 i))), .int (iI (acc))]) ?_
            have hb8 := tf_b (0 < T 8 i)
            refine j_if_eq X (tgt := 78) dX4_dayOnBench_66 (by decide) (q := 69) rfl (by omega) (fun c_66 => ?_) (fun c_66 => ?_)
            · skip
              have k66 := tf_0 c_66
              refine j_iconst X (a := 0) dX4_dayOnBench_78 (q := 79) rfl ?_
              refine j_iadd X dX4_dayOnBench_79 (q := 80) rfl ?_
              refine j_istore_n X (i := 3) dX4_dayOnBench_80 rfl (by decide) (q := 81) rfl (lv' := [(3, .int (iI (acc + 0))), (5, .int (iI (0))), (0, .ref (am 0)), (1, .int (iI (z))), (2, .int (iI (e9))), (4, .int (iI (i)))]) (by first | rfl | simp [cat_rf, cat_i, cat_l, cat_r]) ?_
              refine j_iinc X dX4_dayOnBench_81 5 rfl (by decide) (q := 84) rfl (lv' := [(4, .int (iI (i + 1))), (3, .int (iI (acc + 0))), (5, .int (iI (0))), (0, .ref (am 0)), (1, .int (iI (z))), (2, .int (iI (e9)))]) (by first | rfl | simp [cat_rf, cat_i, cat_l, cat_r]) ?_
              refine j_goto X (tgt := 5) dX4_dayOnBench_84 (by decide) ?_
              exact j_lv (ih ((n - (i + 1)).toNat) (by omega) (i + 1) _ (by omega) (by omega) rfl (by rw [sm_s hi.1, ahm, tf_f (by omega)]; omega)) [3, 4, 5, 1, 0] rfl
            · skip
              have k66 := tf_1 c_66
              refine j_iload X dX4_dayOnBench_69 (q := 71) rfl 0 rfl ?_
              refine j_if_eq X (tgt := 78) dX4_dayOnBench_71 (by decide) (q := 74) rfl (by omega) (fun c_71 => ?_) (fun c_71 => ?_)
              · skip
                refine j_iconst X (a := 0) dX4_dayOnBench_78 (q := 79) rfl ?_
                refine j_iadd X dX4_dayOnBench_79 (q := 80) rfl ?_
                refine j_istore_n X (i := 3) dX4_dayOnBench_80 rfl (by decide) (q := 81) rfl (lv' := [(3, .int (iI (acc + 0))), (5, .int (iI (0))), (0, .ref (am 0)), (1, .int (iI (z))), (2, .int (iI (e9))), (4, .int (iI (i)))]) (by first | rfl | simp [cat_rf, cat_i, cat_l, cat_r]) ?_
                refine j_iinc X dX4_dayOnBench_81 5 rfl (by decide) (q := 84) rfl (lv' := [(4, .int (iI (i + 1))), (3, .int (iI (acc + 0))), (5, .int (iI (0))), (0, .ref (am 0)), (1, .int (iI (z))), (2, .int (iI (e9)))]) (by first | rfl | simp [cat_rf, cat_i, cat_l, cat_r]) ?_
                refine j_goto X (tgt := 5) dX4_dayOnBench_84 (by decide) ?_
                exact j_lv (ih ((n - (i + 1)).toNat) (by omega) (i + 1) _ (by omega) (by omega) rfl (by rw [sm_s hi.1, ahm, tf_f (by omega)]; omega)) [3, 4, 5, 1, 0] rfl
              · skip
                exact absurd c_71 (by decide)
          · skip
            refine j_iload X dX4_dayOnBench_46 (q := 48) rfl 4 rfl ?_
            refine j_iload_n X dX4_dayOnBench_48 (q := 49) rfl 1 rfl ?_
            refine j_icmp_ge X (tgt := 56) dX4_dayOnBench_49 (by decide) (q := 52) rfl (by omega) (by omega) (fun c_49 => ?_) (fun c_49 => ?_)
            · skip
              refine j_iconst X (a := 0) dX4_dayOnBench_56 (q := 57) rfl ?_
              refine j_istore X (i := 5) dX4_dayOnBench_57 (by decide) (q := 59) rfl (lv' := [(5, .int (iI (0))), (0, .ref (am 0)), (1, .int (iI (z))), (2, .int (iI (e9))), (3, .int (iI (acc))), (4, .int (iI (i)))]) (by first | rfl | simp [cat_rf, cat_i, cat_l, cat_r]) ?_
              refine j_iload_n X dX4_dayOnBench_59 (q := 60) rfl 4 rfl ?_
              refine j_aload_n X dX4_dayOnBench_60 (q := 61) rfl 1 rfl ?_
              refine j_iload X dX4_dayOnBench_61 (q := 63) rfl 5 rfl ?_
              refine j_callV X (As := [.int (iI (i))]) (st := [.int (iI (acc))]) hM.obj rfl (c_X4_isCalibrated hlt hM hI i ⟨hi.1, by omega⟩) sv_X4_83 (by decide) rfl (by first | decide | exact Nat.le_of_ble_eq_true rfl | simp [cat_rf, cat_i, cat_l, cat_r]) dX4_dayOnBench_63 (by decide) (fun _ _ h => h.elim) ?_
              rintro v9 w9 ⟨rfl, rfl⟩
              refine j_st (st := [.int (iI (tf (0 < T 8 i))), .int (iI (acc))]) ?_
              have hb8 := tf_b (0 < T 8 i)
              refine j_if_eq X (tgt := 78) dX4_dayOnBench_66 (by decide) (q := 69) rfl (by omega) (fun c_66 => ?_) (fun c_66 => ?_)
              · skip
                have k66 := tf_0 c_66
                refine j_iconst X (a := 0) dX4_dayOnBench_78 (q := 79) rfl ?_
                refine j_iadd X dX4_dayOnBench_79 (q := 80) rfl ?_
                refine j_istore_n X (i := 3) dX4_dayOnBench_80 rfl (by decide) (q := 81) rfl (lv' := [(3, .int (iI (acc + 0))), (5, .int (iI (0))), (0, .ref (am 0)), (1, .int (iI (z))), (2, .int (iI (e9))), (4, .int (iI (i)))]) (by first | rfl | simp [cat_rf, cat_i, cat_l, cat_r]) ?_
                refine j_iinc X dX4_dayOnBench_81 5 rfl (by decide) (q := 84) rfl (lv' := [(4, .int (iI (i + 1))), (3, .int (iI (acc + 0))), (5, .int (iI (0))), (0, .ref (am 0)), (1, .int (iI (z))), (2, .int (iI (e9)))]) (by first | rfl | simp [cat_rf, cat_i, cat_l, cat_r]) ?_
                refine j_goto X (tgt := 5) dX4_dayOnBench_84 (by decide) ?_
                exact j_lv (ih ((n - (i + 1)).toNat) (by omega) (i + 1) _ (by omega) (by omega) rfl (by rw [sm_s hi.1, ahm, tf_f (by omega)]; omega)) [3, 4, 5, 1, 0] rfl
              · skip
                have k66 := tf_1 c_66
                refine j_iload X dX4_dayOnBench_69 (q := 71) rfl 0 rfl ?_
                refine j_if_eq X (tgt := 78) dX4_dayOnBench_71 (by decide) (q := 74) rfl (by omega) (fun c_71 => ?_) (fun c_71 => ?_)
                · skip
                  refine j_iconst X (a := 0) dX4_dayOnBench_78 (q := 79) rfl ?_
                  refine j_iadd X dX4_dayOnBench_79 (q := 80) rfl ?_
                  refine j_istore_n X (i := 3) dX4_dayOnBench_80 rfl (by decide) (q := 81) rfl (lv' := [(3, .int (iI (acc + 0))), (5, .int (iI (0))), (0, .ref (am 0)), (1, .int (iI (z))), (2, .int (iI (e9))), (4, .int (iI (i)))]) (by first | rfl | simp [cat_rf, cat_i, cat_l, cat_r]) ?_
                  refine j_iinc X dX4_dayOnBench_81 5 rfl (by decide) (q := 84) rfl (lv' := [(4, .int (iI (i + 1))), (3, .int (iI (acc + 0))), (5, .int (iI (0))), (0, .ref (am 0)), (1, .int (iI (z))), (2, .int (iI (e9)))]) (by first | rfl | simp [cat_rf, cat_i, cat_l, cat_r]) ?_
                  refine j_goto X (tgt := 5) dX4_dayOnBench_84 (by decide) ?_
                  exact j_lv (ih ((n - (i + 1)).toNat) (by omega) (i + 1) _ (by omega) (by omega) rfl (by rw [sm_s hi.1, ahm, tf_f (by omega)]; omega)) [3, 4, 5, 1, 0] rfl
                · skip
                  exact absurd c_71 (by decide)
            · skip
              refine j_iconst X (a := 1) dX4_dayOnBench_52 (q := 53) rfl ?_
              refine j_goto X (tgt := 57) dX4_dayOnBench_53 (by decide) ?_
              refine j_istore X (i := 5) dX4_dayOnBench_57 (by decide) (q := 59) rfl (lv' := [(5, .int (iI (1))), (0, .ref (am 0)), (1, .int (iI (z))), (2, .int (iI (e9))), (3, .int (iI (acc))), (4, .int (iI (i)))]) (by first | rfl | simp [cat_rf, cat_i, cat_l, cat_r]) ?_
              refine j_iload_n X dX4_dayOnBench_59 (q := 60) rfl 4 rfl ?_
              refine j_aload_n X dX4_dayOnBench_60 (q := 61) rfl 1 rfl ?_
              refine j_iload X dX4_dayOnBench_61 (q := 63) rfl 5 rfl ?_
              refine j_callV X (As := [.int (iI (i))]) (st := [.int (iI (acc))]) hM.obj rfl (c_X4_isCalibrated hlt hM hI i ⟨hi.1, by omega⟩) sv_X4_83 (by decide) rfl (by first | decide | exact Nat.le_of_ble_eq_true rfl | simp [cat_rf, cat_i, cat_l, cat_r]) dX4_dayOnBench_63 (by decide) (fun _ _ h => h.elim) ?_
              rintro v9 w9 ⟨rfl, rfl⟩
              refine j_st (st := [.int (iI (tf (0 < T 8 i))), .int (iI (acc))]) ?_
              have hb8 := tf_b (0 < T 8 i)
              refine j_if_eq X (tgt := 78) dX4_dayOnBench_66 (by decide) (q := 69) rfl (by omega) (fun c_66 => ?_) (fun c_66 => ?_)
              · skip
                have k66 := tf_0 c_66
                refine j_iconst X (a := 0) dX4_dayOnBench_78 (q := 79) rfl ?_
                refine j_iadd X dX4_dayOnBench_79 (q := 80) rfl ?_
                refine j_istore_n X (i := 3) dX4_dayOnBench_80 rfl (by decide) (q := 81) rfl (lv' := [(3, .int (iI (acc + 0))), (5, .int (iI (1))), (0, .ref (am 0)), (1, .int (iI (z))), (2, .int (iI (e9))), (4, .int (iI (i)))]) (by first | rfl | simp [cat_rf, cat_i, cat_l, cat_r]) ?_
                refine j_iinc X dX4_dayOnBench_81 5 rfl (by decide) (q := 84) rfl (lv' := [(4, .int (iI (i + 1))), (3, .int (iI (acc + 0))), (5, .int (iI (1))), (0, .ref (am 0)), (1, .int (iI (z))), (2, .int (iI (e9)))]) (by first | rfl | simp [cat_rf, cat_i, cat_l, cat_r]) ?_
                refine j_goto X (tgt := 5) dX4_dayOnBench_84 (by decide) ?_
                exact j_lv (ih ((n - (i + 1)).toNat) (by omega) (i + 1) _ (by omega) (by omega) rfl (by rw [sm_s hi.1, ahm, tf_f (by omega)]; omega)) [3, 4, 5, 1, 0] rfl
              · skip
                have k66 := tf_1 c_66
                refine j_iload X dX4_dayOnBench_69 (q := 71) rfl 0 rfl ?_
                refine j_if_eq X (tgt := 78) dX4_dayOnBench_71 (by decide) (q := 74) rfl (by omega) (fun c_71 => ?_) (fun c_71 => ?_)
                · skip
                  exact absurd c_71 (by decide)
                · skip
                  refine j_iconst X (a := 1) dX4_dayOnBench_74 (q := 75) rfl ?_
                  refine j_goto X (tgt := 79) dX4_dayOnBench_75 (by decide) ?_
                  refine j_iadd X dX4_dayOnBench_79 (q := 80) rfl ?_
                  refine j_istore_n X (i := 3) dX4_dayOnBench_80 rfl (by decide) (q := 81) rfl (lv' := [(3, .int (iI (acc + 1))), (5, .int (iI (1))), (0, .ref (am 0)), (1, .int (iI (z))), (2, .int (iI (e9))), (4, .int (iI (i)))]) (by first | rfl | simp [cat_rf, cat_i, cat_l, cat_r]) ?_
                  refine j_iinc X dX4_dayOnBench_81 5 rfl (by decide) (q := 84) rfl (lv' := [(4, .int (iI (i + 1))), (3, .int (iI (acc + 1))), (5, .int (iI (1))), (0, .ref (am 0)), (1, .int (iI (z))), (2, .int (iI (e9)))]) (by first | rfl | simp [cat_rf, cat_i, cat_l, cat_r]) ?_
                  refine j_goto X (tgt := 5) dX4_dayOnBench_84 (by decide) ?_
                  exact j_lv (ih ((n - (i + 1)).toNat) (by omega) (i + 1) _ (by omega) (by omega) rfl (by rw [sm_s hi.1, ahm, tf_t (by omega)]; omega)) [3, 4, 5, 1, 0] rfl
  exact j_lv (loop _ 0 0 (by omega) (by decide) rfl rfl) [2, 3, 4, 1, 0] rfl

set_option maxRecDepth 100000 in
set_option maxHeartbeats 4000000 in
theorem c_X4_benchDay {l : Launch} (hlt : l.stackTraces = false) {D : va_G} {ca : Nat → ClassId} {base : Nat} {am : Nat → Nat} {th : Int} {n nm : Int} {T : St} {w : Wd} (hM : MW base ca am th T w) (hI : MI n nm T) (z : Int) (hz : -2147483648 ≤ z ∧ z ≤ 2147483647) (e9 : Int) (he9 : -2147483648 ≤ e9 ∧ e9 ≤ 2147483647) : CT l D ca base yX4_benchDay cX4_benchDay 4 (some .int) 2 0 0 [.ref (am 0), .int (iI (z)), .int (iI (e9))] w (fun v w' => v = some (.int (iI (if bdC n z e9 = 0 then (if 0 < T 8 z then dob n T z e9 else -1) else 0))) ∧ MW base ca am (bdC n z e9) T w' ∧ Fr 1 w w') (fun _ _ => False) := by
  obtain ⟨hn, hnm, e2, e18, h1t, h3t⟩ := hI.top
  refine CT.mk hlt (by decide +kernel) (by first | exact Nat.le_of_ble_eq_true rfl | simp [lg_sl, cat_rf, cat_i, cat_l, cat_r]) ?_
  intro p e s m args below meth c X htab
  rw [show lv_args 0 [.ref (am 0), .int (iI (z)), .int (iI (e9))] = [(0, .ref (am 0)), (1, .int (iI (z))), (2, .int (iI (e9)))] from by first | rfl | simp [lv_args, cat_rf, cat_i, cat_l, cat_r]]
  refine j_aload_n X dX4_benchDay_0 (q := 1) rfl 0 rfl ?_
  refine j_iload_n X dX4_benchDay_1 (q := 2) rfl 1 rfl ?_
  refine j_callV X (As := [.int (iI (z))]) (st := []) hM.obj rfl (c_X4_isInstrument hlt hM hI z hz) sv_X4_69 (by decide) rfl (by first | decide | exact Nat.le_of_ble_eq_true rfl | simp [cat_rf, cat_i, cat_l, cat_r]) dX4_benchDay_2 (by decide) (fun _ _ h => h.elim) ?_
  rintro v9 w9 ⟨rfl, rfl⟩
  refine j_st (st := [.int (iI (tf (0 ≤ z ∧ z < n)))]) ?_
  have hb := tf_b (0 ≤ z ∧ z < n)
  refine j_istore_n X (i := 3) dX4_benchDay_5 rfl (by decide) (q := 6) rfl (lv' := [(3, .int (iI (tf (0 ≤ z ∧ z < n)))), (0, .ref (am 0)), (1, .int (iI (z))), (2, .int (iI (e9)))]) (by first | rfl | simp [cat_rf, cat_i, cat_l, cat_r]) ?_
  refine j_aload_n X dX4_benchDay_6 (q := 7) rfl 1 rfl ?_
  refine j_iload_n X dX4_benchDay_7 (q := 8) rfl 0 rfl ?_
  refine j_if_ne X (tgt := 15) dX4_benchDay_8 (by decide) (q := 11) rfl (by omega) (fun c_8 => ?_) (fun c_8 => ?_)
  · skip
    have k1 : 0 ≤ z ∧ z < n := tf_1 c_8
    obtain ⟨t_7_0, t_7_1, t_7_2, t_7_3, t_7_4, t_7_5, t_7_6, t_7_7, t_7_8, t_7_9, t_7_10, t_7_11⟩ := hI.ins (i := z) k1.1 k1.2
    refine j_iload_n X dX4_benchDay_15 (q := 16) rfl 3 rfl ?_
    refine j_callS X (As := [.int (iI (e9))]) (st := [.ref (am 0)])  (c_X4_isEach hlt e9 he9) ss_X4_145 (by decide) rfl (by first | decide | exact Nat.le_of_ble_eq_true rfl | simp [cat_rf, cat_i, cat_l, cat_r]) dX4_benchDay_16 (by decide) (fun _ _ h => h.elim) ?_
    rintro v9 w9 ⟨rfl, rfl⟩
    refine j_st (st := [.int (iI (tf (1 ≤ e9 ∧ e9 ≤ 12))), .ref (am 0)]) ?_
    have hb7 := tf_b (1 ≤ e9 ∧ e9 ≤ 12)
    refine j_if_eq X (tgt := 26) dX4_benchDay_19 (by decide) (q := 22) rfl (by omega) (fun c_19 => ?_) (fun c_19 => ?_)
    · skip
      have k19 := tf_0 c_19
      refine j_iconst X (a := 2) dX4_benchDay_26 (q := 27) rfl ?_
      refine j_callV X (As := [.int (iI (2))]) (st := []) hM.obj rfl (c_X4_holds hlt hM hI (2) (by decide)) sv_X4_73 (by decide) rfl (by first | decide | exact Nat.le_of_ble_eq_true rfl | simp [cat_rf, cat_i, cat_l, cat_r]) dX4_benchDay_27 (by decide) (fun _ _ h => h.elim) ?_
      rintro v9 w9 ⟨rfl, hM9, hF9⟩
      refine j_st (st := [.int (iI (tf (((2) : Int) = 0)))]) ?_
      have hx : bdC n z e9 = 2 := by unfold bdC; (repeat' split) <;> omega
      rw [← hx] at hM9
      have hb9 := tf_b (((2) : Int) = 0)
      refine j_if_ne X (tgt := 35) dX4_benchDay_30 (by decide) (q := 33) rfl (by omega) (fun c_30 => ?_) (fun c_30 => ?_)
      · skip
        exact absurd c_30 (by decide)
      · skip
        refine j_iconst X (a := 0) dX4_benchDay_33 (q := 34) rfl ?_
        exact j_iret X rfl dX4_benchDay_34 (⟨by rw [hx]; rfl, hM9, hF9⟩) (by decide) (by decide)
    · skip
      have k19 := tf_1 c_19
      refine j_iconst X (a := 0) dX4_benchDay_22 (q := 23) rfl ?_
      refine j_goto X (tgt := 27) dX4_benchDay_23 (by decide) ?_
      refine j_callV X (As := [.int (iI (0))]) (st := []) hM.obj rfl (c_X4_holds hlt hM hI (0) (by decide)) sv_X4_73 (by decide) rfl (by first | decide | exact Nat.le_of_ble_eq_true rfl | simp [cat_rf, cat_i, cat_l, cat_r]) dX4_benchDay_27 (by decide) (fun _ _ h => h.elim) ?_
      rintro v9 w9 ⟨rfl, hM9, hF9⟩
      refine j_st (st := [.int (iI (tf (((0) : Int) = 0)))]) ?_
      have hx : bdC n z e9 = 0 := by unfold bdC; (repeat' split) <;> omega
      rw [← hx] at hM9
      have hb9 := tf_b (((0) : Int) = 0)
      refine j_if_ne X (tgt := 35) dX4_benchDay_30 (by decide) (q := 33) rfl (by omega) (fun c_30 => ?_) (fun c_30 => ?_)
      · skip
        refine j_aload_n X dX4_benchDay_35 (q := 36) rfl 1 rfl ?_
        refine j_iload_n X dX4_benchDay_36 (q := 37) rfl 2 rfl ?_
        refine j_callV X (As := [.int (iI (z))]) (st := []) hM9.obj rfl (c_X4_isCalibrated hlt hM9 hI z k1) sv_X4_83 (by decide) rfl (by first | decide | exact Nat.le_of_ble_eq_true rfl | simp [cat_rf, cat_i, cat_l, cat_r]) dX4_benchDay_37 (by decide) (fun _ _ h => h.elim) ?_
        rintro v9 w9 ⟨rfl, rfl⟩
        refine j_st (st := [.int (iI (tf (0 < T 8 z)))]) ?_
        have hb8 := tf_b (0 < T 8 z)
        refine j_if_eq X (tgt := 52) dX4_benchDay_40 (by decide) (q := 43) rfl (by omega) (fun c_40 => ?_) (fun c_40 => ?_)
        · skip
          have k40 := tf_0 c_40
          refine j_iconst X (a := -1) dX4_benchDay_52 (q := 53) rfl ?_
          exact j_iret X rfl dX4_benchDay_53 (⟨by rw [hx, if_pos rfl, if_neg k40], hM9, hF9⟩) (by decide) (by decide)
        · skip
          have k40 := tf_1 c_40
          refine j_aload_n X dX4_benchDay_43 (q := 44) rfl 1 rfl ?_
          refine j_iload_n X dX4_benchDay_44 (q := 45) rfl 2 rfl ?_
          refine j_iload_n X dX4_benchDay_45 (q := 46) rfl 3 rfl ?_
          refine j_callV X (As := [.int (iI (z)), .int (iI (e9))]) (st := []) hM9.obj rfl (c_X4_dayOnBench hlt hM9 hI z k1 e9 (by omega)) sv_X4_148 (by decide) rfl (by first | decide | exact Nat.le_of_ble_eq_true rfl | simp [cat_rf, cat_i, cat_l, cat_r]) dX4_benchDay_46 (by decide) (fun _ _ h => h.elim) ?_
          rintro v9 w9 ⟨rfl, rfl⟩
          refine j_st (st := [.int (iI (dob n T z e9))]) ?_
          refine j_goto X (tgt := 53) dX4_benchDay_49 (by decide) ?_
          exact j_iret X rfl dX4_benchDay_53 (⟨by rw [hx, if_pos rfl, if_pos k40], hM9, hF9⟩) (by decide) (by decide)
      · skip
        exact absurd c_30 (by decide)
  · skip
    have k1 : ¬ (0 ≤ z ∧ z < n) := tf_0 c_8
    refine j_iconst X (a := 1) dX4_benchDay_11 (q := 12) rfl ?_
    refine j_goto X (tgt := 27) dX4_benchDay_12 (by decide) ?_
    refine j_callV X (As := [.int (iI (1))]) (st := []) hM.obj rfl (c_X4_holds hlt hM hI (1) (by decide)) sv_X4_73 (by decide) rfl (by first | decide | exact Nat.le_of_ble_eq_true rfl | simp [cat_rf, cat_i, cat_l, cat_r]) dX4_benchDay_27 (by decide) (fun _ _ h => h.elim) ?_
    rintro v9 w9 ⟨rfl, hM9, hF9⟩
    refine j_st (st := [.int (iI (tf (((1) : Int) = 0)))]) ?_
    have hx : bdC n z e9 = 1 := by unfold bdC; (repeat' split) <;> omega
    rw [← hx] at hM9
    have hb9 := tf_b (((1) : Int) = 0)
    refine j_if_ne X (tgt := 35) dX4_benchDay_30 (by decide) (q := 33) rfl (by omega) (fun c_30 => ?_) (fun c_30 => ?_)
    · skip
      exact absurd c_30 (by decide)
    · skip
      refine j_iconst X (a := 0) dX4_benchDay_33 (q := 34) rfl ?_
      exact j_iret X rfl dX4_benchDay_34 (⟨by rw [hx]; rfl, hM9, hF9⟩) (by decide) (by decide)

set_option maxRecDepth 100000 in
set_option maxHeartbeats 4000000 in
theorem c_X4_late {l : Launch} (hlt : l.stackTraces = false) {D : va_G} {ca : Nat → ClassId} {base : Nat} {am : Nat → Nat} {th : Int} {n nm : Int} {T : St} {w : Wd} (hM : MW base ca am th T w) (hI : MI n nm T) (e9 : Int) (he9 : -2147483648 ≤ e9 ∧ e9 ≤ 2147483647) : CT l D ca base yX4_late cX4_late 4 (some .int) 2 0 0 [.ref (am 0), .int (iI (e9))] w (fun v w' => v = some (.int (iI (if ltC e9 = 0 then sm (latm n T e9) n.toNat else 0))) ∧ MW base ca am (ltC e9) T w' ∧ Fr 1 w w') (fun _ _ => False) := by
  obtain ⟨hn, hnm, e2, e18, h1t, h3t⟩ := hI.top
  refine CT.mk hlt (by decide +kernel) (by first | exact Nat.le_of_ble_eq_true rfl | simp [lg_sl, cat_rf, cat_i, cat_l, cat_r]) ?_
  intro p e s m args below meth c X htab
  rw [show lv_args 0 [.ref (am 0), .int (iI (e9))] = [(0, .ref (am 0)), (1, .int (iI (e9)))] from by first | rfl | simp [lv_args, cat_rf, cat_i, cat_l, cat_r]]
  refine j_aload_n X dX4_late_0 (q := 1) rfl 0 rfl ?_
  refine j_iload_n X dX4_late_1 (q := 2) rfl 1 rfl ?_
  refine j_callS X (As := [.int (iI (e9))]) (st := [.ref (am 0)])  (c_X4_isEach hlt e9 he9) ss_X4_145 (by decide) rfl (by first | decide | exact Nat.le_of_ble_eq_true rfl | simp [cat_rf, cat_i, cat_l, cat_r]) dX4_late_2 (by decide) (fun _ _ h => h.elim) ?_
  rintro v9 w9 ⟨rfl, rfl⟩
  refine j_st (st := [.int (iI (tf (1 ≤ e9 ∧ e9 ≤ 12))), .ref (am 0)]) ?_
  have hb7 := tf_b (1 ≤ e9 ∧ e9 ≤ 12)
  refine j_if_eq X (tgt := 12) dX4_late_5 (by decide) (q := 8) rfl (by omega) (fun c_5 => ?_) (fun c_5 => ?_)
  · skip
    have k5 := tf_0 c_5
    refine j_iconst X (a := 1) dX4_late_12 (q := 13) rfl ?_
    refine j_callV X (As := [.int (iI (1))]) (st := []) hM.obj rfl (c_X4_holds hlt hM hI (1) (by decide)) sv_X4_73 (by decide) rfl (by first | decide | exact Nat.le_of_ble_eq_true rfl | simp [cat_rf, cat_i, cat_l, cat_r]) dX4_late_13 (by decide) (fun _ _ h => h.elim) ?_
    rintro v9 w9 ⟨rfl, hM9, hF9⟩
    refine j_st (st := [.int (iI (tf (((1) : Int) = 0)))]) ?_
    have hx : ltC e9 = 1 := by unfold ltC; (repeat' split) <;> omega
    rw [← hx] at hM9
    have hb9 := tf_b (((1) : Int) = 0)
    refine j_if_ne X (tgt := 21) dX4_late_16 (by decide) (q := 19) rfl (by omega) (fun c_16 => ?_) (fun c_16 => ?_)
    · skip
      exact absurd c_16 (by decide)
    · skip
      refine j_iconst X (a := 0) dX4_late_19 (q := 20) rfl ?_
      exact j_iret X rfl dX4_late_20 (⟨by rw [hx]; rfl, hM9, hF9⟩) (by decide) (by decide)
  · skip
    have k5 := tf_1 c_5
    refine j_iconst X (a := 0) dX4_late_8 (q := 9) rfl ?_
    refine j_goto X (tgt := 13) dX4_late_9 (by decide) ?_
    refine j_callV X (As := [.int (iI (0))]) (st := []) hM.obj rfl (c_X4_holds hlt hM hI (0) (by decide)) sv_X4_73 (by decide) rfl (by first | decide | exact Nat.le_of_ble_eq_true rfl | simp [cat_rf, cat_i, cat_l, cat_r]) dX4_late_13 (by decide) (fun _ _ h => h.elim) ?_
    rintro v9 w9 ⟨rfl, hM9, hF9⟩
    refine j_st (st := [.int (iI (tf (((0) : Int) = 0)))]) ?_
    have hx : ltC e9 = 0 := by unfold ltC; (repeat' split) <;> omega
    rw [← hx] at hM9
    have hb9 := tf_b (((0) : Int) = 0)
    refine j_if_ne X (tgt := 21) dX4_late_16 (by decide) (q := 19) rfl (by omega) (fun c_16 => ?_) (fun c_16 => ?_)
    · skip
      refine j_iconst X (a := 0) dX4_late_21 (q := 22) rfl ?_
      refine j_istore_n X (i := 2) dX4_late_22 rfl (by decide) (q := 23) rfl (lv' := [(2, .int (iI (0))), (0, .ref (am 0)), (1, .int (iI (e9)))]) (by first | rfl | simp [cat_rf, cat_i, cat_l, cat_r]) ?_
      refine j_iconst X (a := 0) dX4_late_23 (q := 24) rfl ?_
      refine j_istore_n X (i := 3) dX4_late_24 rfl (by decide) (q := 25) rfl (lv' := [(3, .int (iI (0))), (2, .int (iI (0))), (0, .ref (am 0)), (1, .int (iI (e9)))]) (by first | rfl | simp [cat_rf, cat_i, cat_l, cat_r]) ?_
      have loop : ∀ (kk : Nat) (i acc : Int), (0 ≤ i ∧ i ≤ n) → (0 ≤ acc ∧ acc ≤ i) → (n - i).toNat = kk → acc = sm (latm n T e9) i.toNat → J p l e (Rm 2 0 0) s m args below meth c (vx_MQ below (Qn D base (fun v w' => v = some (.int (iI (if ltC e9 = 0 then sm (latm n T e9) n.toNat else 0))) ∧ MW base ca am (ltC e9) T w' ∧ Fr 1 w w')) (Xn D base (fun _ _ => False)) args s 0 0 (fun q => base ≤ q)) D base 4 0 0 25 [(0, .ref (am 0)), (1, .int (iI (e9))), (2, .int (iI (acc))), (3, .int (iI (i)))] [] w9 := by
        intro kk
        induction kk using Nat.strongRecOn with
        | ind kk ih =>
          intro i acc hi hac hkk hv
          refine j_iload_n X dX4_late_25 (q := 26) rfl 3 rfl ?_
          refine j_aload_n X dX4_late_26 (q := 27) rfl 0 rfl ?_
          refine j_get X (v := .int (iI (T 2 0))) fl_X4_66 hM9.obj rfl dX4_late_27 (q := 30) rfl ?_
          refine j_icmp_ge X (tgt := 70) dX4_late_30 (by decide) (q := 33) rfl (by omega) (by omega) (fun c_30 => ?_) (fun c_30 => ?_)
          · skip
            refine j_iload_n X dX4_late_70 (q := 71) rfl 2 rfl ?_
            exact j_iret X rfl dX4_late_71 (⟨by rw [hx, if_pos rfl, hv, show i = n by omega], hM9, hF9⟩) (by decide) (by decide)
          · skip
            obtain ⟨t_8_0, t_8_1, t_8_2, t_8_3, t_8_4, t_8_5, t_8_6, t_8_7, t_8_8, t_8_9, t_8_10, t_8_11⟩ := hI.ins (i := i) hi.1 (by omega)
            refine j_iload_n X dX4_late_33 (q := 34) rfl 2 rfl ?_
            refine j_aload_n X dX4_late_34 (q := 35) rfl 0 rfl ?_
            refine j_iload_n X dX4_late_35 (q := 36) rfl 3 rfl ?_
            refine j_callV X (As := [.int (iI (i))]) (st := [.int (iI (acc))]) hM9.obj rfl (c_X4_isCalibrated hlt hM9 hI i ⟨hi.1, by omega⟩) sv_X4_83 (by decide) rfl (by first | decide | exact Nat.le_of_ble_eq_true rfl | simp [cat_rf, cat_i, cat_l, cat_r]) dX4_late_36 (by decide) (fun _ _ h => h.elim) ?_
            rintro v9 w9 ⟨rfl, rfl⟩
            refine j_st (st := [.int (iI (tf (0 < T 8 i))), .int (iI (acc))]) ?_
            have hb8 := tf_b (0 < T 8 i)
            refine j_if_eq X (tgt := 61) dX4_late_39 (by decide) (q := 42) rfl (by omega) (fun c_39 => ?_) (fun c_39 => ?_)
            · skip
              have k39 := tf_0 c_39
              refine j_iconst X (a := 0) dX4_late_61 (q := 62) rfl ?_
              refine j_iadd X dX4_late_62 (q := 63) rfl ?_
              refine j_istore_n X (i := 2) dX4_late_63 rfl (by decide) (q := 64) rfl (lv' := [(2, .int (iI (acc + 0))), (0, .ref (am 0)), (1, .int (iI (e9))), (3, .int (iI (i)))]) (by first | rfl | simp [cat_rf, cat_i, cat_l, cat_r]) ?_
              refine j_iinc X dX4_late_64 3 rfl (by decide) (q := 67) rfl (lv' := [(3, .int (iI (i + 1))), (2, .int (iI (acc + 0))), (0, .ref (am 0)), (1, .int (iI (e9)))]) (by first | rfl | simp [cat_rf, cat_i, cat_l, cat_r]) ?_
              refine j_goto X (tgt := 25) dX4_late_67 (by decide) ?_
              exact j_lv (ih ((n - (i + 1)).toNat) (by omega) (i + 1) _ (by omega) (by omega) rfl (by rw [sm_s hi.1, latm, tf_f (by omega)]; omega)) [2, 3, 1, 0] rfl
            · skip
              have k39 := tf_1 c_39
              refine j_aload_n X dX4_late_42 (q := 43) rfl 0 rfl ?_
              refine j_iload_n X dX4_late_43 (q := 44) rfl 3 rfl ?_
              refine j_iload_n X dX4_late_44 (q := 45) rfl 1 rfl ?_
              refine j_callV X (As := [.int (iI (i)), .int (iI (e9))]) (st := [.int (iI (acc))]) hM9.obj rfl (c_X4_dayOnBench hlt hM9 hI i ⟨hi.1, by omega⟩ e9 k5) sv_X4_148 (by decide) rfl (by first | decide | exact Nat.le_of_ble_eq_true rfl | simp [cat_rf, cat_i, cat_l, cat_r]) dX4_late_45 (by decide) (fun _ _ h => h.elim) ?_
              rintro v9 w9 ⟨rfl, rfl⟩
              refine j_st (st := [.int (iI (dob n T i e9)), .int (iI (acc))]) ?_
              have hdb : 0 ≤ dob n T i e9 ∧ dob n T i e9 ≤ 511500 := by
                have q1 := ahm_b hn T i
                have q2 := td_r q1 k5.1
                unfold dob; omega
              refine j_aload_n X dX4_late_48 (q := 49) rfl 0 rfl ?_
              refine j_get X (v := .ref (am 11)) fl_X4_31 hM9.obj rfl dX4_late_49 (q := 52) rfl ?_
              refine j_iload_n X dX4_late_52 (q := 53) rfl 3 rfl ?_
              refine jm_iald X hM9 11 (by decide) rfl (by omega) (by show _ < (12 : Int); omega) dX4_late_53 (q := 54) rfl ?_
              refine j_icmp_le X (tgt := 61) dX4_late_54 (by decide) (q := 57) rfl (by omega) (by omega) (fun c_54 => ?_) (fun c_54 => ?_)
              · skip
                refine j_iconst X (a := 0) dX4_late_61 (q := 62) rfl ?_
                refine j_iadd X dX4_late_62 (q := 63) rfl ?_
                refine j_istore_n X (i := 2) dX4_late_63 rfl (by decide) (q := 64) rfl (lv' := [(2, .int (iI (acc + 0))), (0, .ref (am 0)), (1, .int (iI (e9))), (3, .int (iI (i)))]) (by first | rfl | simp [cat_rf, cat_i, cat_l, cat_r]) ?_
                refine j_iinc X dX4_late_64 3 rfl (by decide) (q := 67) rfl (lv' := [(3, .int (iI (i + 1))), (2, .int (iI (acc + 0))), (0, .ref (am 0)), (1, .int (iI (e9)))]) (by first | rfl | simp [cat_rf, cat_i, cat_l, cat_r]) ?_
                refine j_goto X (tgt := 25) dX4_late_67 (by decide) ?_
                exact j_lv (ih ((n - (i + 1)).toNat) (by omega) (i + 1) _ (by omega) (by omega) rfl (by rw [sm_s hi.1, latm, tf_f (by omega)]; omega)) [2, 3, 1, 0] rfl
              · skip
                refine j_iconst X (a := 1) dX4_late_57 (q := 58) rfl ?_
                refine j_goto X (tgt := 62) dX4_late_58 (by decide) ?_
                refine j_iadd X dX4_late_62 (q := 63) rfl ?_
                refine j_istore_n X (i := 2) dX4_late_63 rfl (by decide) (q := 64) rfl (lv' := [(2, .int (iI (acc + 1))), (0, .ref (am 0)), (1, .int (iI (e9))), (3, .int (iI (i)))]) (by first | rfl | simp [cat_rf, cat_i, cat_l, cat_r]) ?_
                refine j_iinc X dX4_late_64 3 rfl (by decide) (q := 67) rfl (lv' := [(3, .int (iI (i + 1))), (2, .int (iI (acc + 1))), (0, .ref (am 0)), (1, .int (iI (e9)))]) (by first | rfl | simp [cat_rf, cat_i, cat_l, cat_r]) ?_
                refine j_goto X (tgt := 25) dX4_late_67 (by decide) ?_
                exact j_lv (ih ((n - (i + 1)).toNat) (by omega) (i + 1) _ (by omega) (by omega) rfl (by rw [sm_s hi.1, latm, tf_t (by omega)]; omega)) [2, 3, 1, 0] rfl
      exact j_lv (loop _ 0 0 (by omega) (by decide) rfl rfl) [2, 3, 1, 0] rfl
    · skip
      exact absurd c_16 (by decide)
