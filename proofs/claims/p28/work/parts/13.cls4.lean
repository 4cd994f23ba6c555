theorem rw_ptin {ad : Int → Nat} {c i : Int} (h0 : 0 ≤ i) (h1 : i < c) : rw_ ad c i.toNat = pt ad i := by rw [rw_in h0 h1, pt_s h0]
def sm (f : Int → Int) : Nat → Int
  | 0 => 0
  | k + 1 => sm f k + f k
theorem sm_s {f : Int → Int} {i : Int} (h : 0 ≤ i) : sm f (i + 1).toNat = sm f i.toNat + f i := by
  obtain ⟨k, rfl⟩ := Int.eq_ofNat_of_zero_le h
  show sm f (k + 1) = sm f k + f k
  rfl
theorem sm_b {f : Int → Int} (h : ∀ i, 0 ≤ f i ∧ f i ≤ 1) : ∀ k : Nat, 0 ≤ sm f k ∧ sm f k ≤ k
  | 0 => by simp [sm]
  | k + 1 => by
    have h1 := sm_b h k
    have h2 := h k
    rw [sm]
    omega
theorem sm_cong {f g : Int → Int} : ∀ {k : Nat}, (∀ i : Int, 0 ≤ i → i < k → f i = g i) → sm f k = sm g k
  | 0, _ => rfl
  | k + 1, h => by rw [sm, sm, sm_cong (fun i a b => h i a (by omega)), h k (by omega) (by omega)]
def stk (S : St) (f k : Int) : Int := if S 32 k = 0 then rst S f (S 8 0) 513 (S 31 k) else 0
theorem stk_b (S : St) (f k : Int) : 0 ≤ stk S f k ∧ stk S f k ≤ 1 := by
  unfold stk
  split
  · exact rst_b S f _ _ _
  · decide
def lgc (S : St) (k i : Int) : Int := tf (S 25 i ≠ 0 ∧ S 30 k < S 20 i ∧ rst S (S 23 i) (S 20 i) 513 (S 31 k) ≠ 0)
def lrc (S : St) (k : Int) : Nat → Int
  | 0 => 0
  | j + 1 => if lrc S k j = 0 then lgc S k j else 1
theorem lrc_b (S : St) (k : Int) : ∀ j, 0 ≤ lrc S k j ∧ lrc S k j ≤ 1
  | 0 => by simp [lrc]
  | j + 1 => by
    rw [lrc]
    split
    · exact tf_b _
    · decide
theorem lrc_s {S : St} {k i : Int} (h : 0 ≤ i) (h0 : lrc S k i.toNat = 0) : lrc S k (i + 1).toNat = lgc S k i := by
  obtain ⟨j, rfl⟩ := Int.eq_ofNat_of_zero_le h
  show lrc S k (j + 1) = lgc S k j
  rw [lrc, if_pos (show lrc S k j = 0 from h0)]
theorem lrc_up {S : St} {k : Int} : ∀ {j d : Nat}, lrc S k j = 1 → lrc S k (j + d) = 1
  | j, 0, h => h
  | j, d + 1, h => by
    show lrc S k (j + d + 1) = 1
    rw [lrc, if_neg (by rw [lrc_up h]; decide)]
theorem lrc_to {S : St} {k : Int} {i c : Int} (h0 : 0 ≤ i) (h1 : i < c) (h : lrc S k i.toNat = 0) (hg : lgc S k i = 1) : lrc S k c.toNat = 1 := by
  have e1 : lrc S k (i + 1).toNat = 1 := by rw [lrc_s h0 h, hg]
  have e2 : c.toNat = (i + 1).toNat + (c.toNat - (i + 1).toNat) := by omega
  rw [e2]
  exact lrc_up e1
def due (S : St) (i : Int) : Int := S 21 (S 15 i) + S 13 i
def ahc (S : St) (u i : Int) : Int := tf (i < S 3 0 ∧ 0 ≤ S 15 i ∧ (due S i < due S u ∨ (due S i = due S u ∧ i < u)))
def ahd (S : St) (u : Int) : Int := sm (ahc S u) 12
theorem ahd_b (S : St) (u : Int) : 0 ≤ ahd S u ∧ ahd S u ≤ 12 := sm_b (fun _ => tf_b _) 12
def latc (S : St) (z i : Int) : Int := tf (i < S 3 0 ∧ 0 ≤ S 15 i ∧ due S i < S 7 0 + (ahd S i).tdiv z)
theorem td_r {a b : Int} (ha : 0 ≤ a ∧ a ≤ 12) (hb : 1 ≤ b) : 0 ≤ a.tdiv b ∧ a.tdiv b ≤ 12 := by
  rw [Int.tdiv_eq_ediv_of_nonneg ha.1]
  have h1 := Int.ediv_nonneg ha.1 (show 0 ≤ b by omega)
  have h2 := Int.ediv_le_self b ha.1
  omega
set_option maxRecDepth 100000 in
set_option maxHeartbeats 4000000 in
theorem c_X3_restsOn {l : Launch} (hlt : l.stackTraces = false) {D : va_G} {ca : Nat → ClassId} {base : Nat} {ad : Nat → Int → Nat} {n nc nm : Int} {S : St} {w : Wd} (hC : CW base ca ad n nc nm S w) (hI : IC n nc nm S) (u f mom : Int) (hu : -1 ≤ u ∧ u < nc) (hf : -1 ≤ f ∧ f < nc) (hm : -2147483648 ≤ mom ∧ mom ≤ 2147483647) : CT l D ca base yX3_restsOn cX3_restsOn 4 (some .boolean) 0 0 0 [va_rf (pt (ad 2) (u)), va_rf (pt (ad 2) (f)), .int (iI (mom))] w (fun v w' => v = some (.int (iI (rst S f mom 513 u))) ∧ w = w') (fun _ _ => False) := by
  obtain ⟨hn, hnc, hnm, e3, e4, e5, h6, h7, h8⟩ := hI.top
  refine CT.mk hlt (by decide +kernel) (by first | exact Nat.le_of_ble_eq_true rfl | simp [lg_sl, cat_rf, cat_i, cat_l, cat_r]) ?_
  intro p e s m args below meth c X htab
  rw [show lv_args 0 [va_rf (pt (ad 2) (u)), va_rf (pt (ad 2) (f)), .int (iI (mom))] = [(0, va_rf (pt (ad 2) (u))), (1, va_rf (pt (ad 2) (f))), (2, .int (iI (mom)))] from by first | rfl | simp [lv_args, cat_rf, cat_i, cat_l, cat_r]]
  refine j_aloadq_n X dX3_restsOn_0 (q := 1) rfl 0 rfl ?_
  refine j_astoreq_n X (i := 3) dX3_restsOn_1 rfl (by decide) (q := 2) rfl (lv' := [(3, va_rf (pt (ad 2) (u))), (0, va_rf (pt (ad 2) (u))), (1, va_rf (pt (ad 2) (f))), (2, .int (iI (mom)))]) (by first | rfl | simp [cat_rf, cat_i, cat_l, cat_r]) ?_
  have loop : ∀ (kk : Nat) (a : Int), (-1 ≤ a ∧ a < nc) → a + 1 ≤ kk → rst S f mom 513 u = rst S f mom kk a → J p l e (Rm 0 0 0) s m args below meth c (vx_MQ below (Qn D base (fun v w' => v = some (.int (iI (rst S f mom 513 u))) ∧ w = w')) (Xn D base (fun _ _ => False)) args s 0 0 (fun q => base ≤ q)) D base 4 0 0 2 [(1, va_rf (pt (ad 2) (f))), (2, .int (iI (mom))), (3, va_rf (pt (ad 2) (a)))] [] w := by
    intro kk
    induction kk using Nat.strongRecOn with
    | ind kk ih =>
      intro a ha hk hv
      refine j_aloadq_n X dX3_restsOn_2 (q := 3) rfl 2 rfl ?_
      refine j_ifnullp X (tgt := 31) dX3_restsOn_3 (by decide) (q := 6) rfl (fun c_3 => ?_) (fun c_3 => ?_)
      · skip
        refine j_iconst X (a := 0) dX3_restsOn_31 (q := 32) rfl ?_
        exact j_zret X rfl (Or.inl rfl) dX3_restsOn_32 (⟨by rw [hv, rst_n c_3], rfl⟩) (by decide) (by decide)
      · skip
        obtain ⟨f_1_0, f_1_1, f_1_2, f_1_3, f_1_4, f_1_5, f_1_6, f_1_7, f_1_8, f_1_9⟩ := hI.kal c_3 ha.2
        obtain ⟨j9, rfl⟩ : ∃ j9, kk = j9 + 1 := ⟨kk - 1, by omega⟩
        refine j_aloadq_n X dX3_restsOn_6 (q := 7) rfl 2 rfl ?_
        refine j_aloadq_n X dX3_restsOn_7 (q := 8) rfl 0 rfl ?_
        refine j_acmp_ne X (tgt := 13) dX3_restsOn_8 (by decide) (q := 11) rfl (fun c_8 => ?_) (fun c_8 => ?_)
        · skip
          refine j_aloadq_n X dX3_restsOn_13 (q := 14) rfl 2 rfl ?_
          refine j_getp X (v := .int (iI (S 27 a))) fl_X3_162 c_3 (hC.kal c_3 ha.2) rfl dX3_restsOn_14 (q := 17) rfl ?_
          refine j_iload_n X dX3_restsOn_17 (q := 18) rfl 1 rfl ?_
          refine j_icmp_ge X (tgt := 23) dX3_restsOn_18 (by decide) (q := 21) rfl (by omega) (by omega) (fun c_18 => ?_) (fun c_18 => ?_)
          · skip
            refine j_aloadq_n X dX3_restsOn_23 (q := 24) rfl 2 rfl ?_
            refine j_getp X (v := va_rf (pt (ad 2) (S 24 a))) fl_X3_234 c_3 (hC.kal c_3 ha.2) rfl dX3_restsOn_24 (q := 27) rfl ?_
            refine j_astoreq_n X (i := 3) dX3_restsOn_27 rfl (by decide) (q := 28) rfl (lv' := [(3, va_rf (pt (ad 2) (S 24 a))), (1, va_rf (pt (ad 2) (f))), (2, .int (iI (mom)))]) (by first | rfl | simp [cat_rf, cat_i, cat_l, cat_r]) ?_
            refine j_goto X (tgt := 2) dX3_restsOn_28 (by decide) ?_
            exact j_lv (ih j9 (by omega) (S 24 a) (by omega) (by omega) (hv.trans (rst_s c_3 (fun z => c_8 (by rw [z])) c_18))) [1, 2, 0] rfl
          · skip
            refine j_iconst X (a := 0) dX3_restsOn_21 (q := 22) rfl ?_
            exact j_zret X rfl (Or.inl rfl) dX3_restsOn_22 (⟨by rw [hv, rst_o c_3 (fun z => c_8 (by rw [z])) c_18], rfl⟩) (by decide) (by decide)
        · skip
          refine j_iconst X (a := 1) dX3_restsOn_11 (q := 12) rfl ?_
          exact j_zret X rfl (Or.inr rfl) dX3_restsOn_12 (⟨by rw [hv, rst_e c_3 ((pt_eq (fun _ _ => hC.inj2) (by omega) (by omega)).mp c_8)], rfl⟩) (by decide) (by decide)
  exact j_lv (loop 513 u hu (by omega) rfl) [2, 3, 0] rfl

set_option maxRecDepth 100000 in
set_option maxHeartbeats 4000000 in
theorem c_X3_isAtStake {l : Launch} (hlt : l.stackTraces = false) {D : va_G} {ca : Nat → ClassId} {base : Nat} {ad : Nat → Int → Nat} {n nc nm : Int} {S : St} {w : Wd} (hC : CW base ca ad n nc nm S w) (hI : IC n nc nm S) (k f : Int) (hk : 0 ≤ k ∧ k < nm) (hf : 0 ≤ f ∧ f < nc) : CT l D ca base yX3_isAtStake cX3_isAtStake 3 (some .boolean) 1 0 0 [.ref (ad 0 0), va_rf (pt (ad 3) (k)), va_rf (pt (ad 2) (f))] w (fun v w' => v = some (.int (iI (stk S f k))) ∧ w = w') (fun _ _ => False) := by
  obtain ⟨hn, hnc, hnm, e3, e4, e5, h6, h7, h8⟩ := hI.top
  refine CT.mk hlt (by decide +kernel) (by first | exact Nat.le_of_ble_eq_true rfl | simp [lg_sl, cat_rf, cat_i, cat_l, cat_r]) ?_
  intro p e s m args below meth c X htab
  rw [show lv_args 0 [.ref (ad 0 0), va_rf (pt (ad 3) (k)), va_rf (pt (ad 2) (f))] = [(0, .ref (ad 0 0)), (1, va_rf (pt (ad 3) (k))), (2, va_rf (pt (ad 2) (f)))] from by first | rfl | simp [lv_args, cat_rf, cat_i, cat_l, cat_r]]
  obtain ⟨f_2_0, f_2_1, f_2_2⟩ := hI.mea hk.1 hk.2
  refine j_aloadq_n X dX3_isAtStake_0 (q := 1) rfl 1 rfl ?_
  refine j_ifnullp X (tgt := 30) dX3_isAtStake_1 (by decide) (q := 4) rfl (fun c_1 => ?_) (fun c_1 => ?_)
  · skip
    exact absurd c_1 (by omega)
  · skip
    refine j_aloadq_n X dX3_isAtStake_4 (q := 5) rfl 1 rfl ?_
    refine j_getp X (v := .int (iI (S 32 k))) fl_X3_221 hk.1 (hC.mea hk.1 hk.2) rfl dX3_isAtStake_5 (q := 8) rfl ?_
    refine j_if_ne X (tgt := 30) dX3_isAtStake_8 (by decide) (q := 11) rfl (by omega) (fun c_8 => ?_) (fun c_8 => ?_)
    · skip
      refine j_iconst X (a := 0) dX3_isAtStake_30 (q := 31) rfl ?_
      exact j_zret X rfl (Or.inl rfl) dX3_isAtStake_31 (⟨by rw [stk, if_neg (by omega)], rfl⟩) (by decide) (by decide)
    · skip
      refine j_aloadq_n X dX3_isAtStake_11 (q := 12) rfl 1 rfl ?_
      refine j_getp X (v := va_rf (pt (ad 2) (S 31 k))) fl_X3_237 hk.1 (hC.mea hk.1 hk.2) rfl dX3_isAtStake_12 (q := 15) rfl ?_
      refine j_aloadq_n X dX3_isAtStake_15 (q := 16) rfl 2 rfl ?_
      refine j_aload_n X dX3_isAtStake_16 (q := 17) rfl 0 rfl ?_
      refine j_get X (v := .int (iI (S 8 0))) fl_X3_99 hC.cal rfl dX3_isAtStake_17 (q := 20) rfl ?_
      refine j_callS X (As := [va_rf (pt (ad 2) (S 31 k)), va_rf (pt (ad 2) (f)), .int (iI (S 8 0))]) (st := [])  (c_X3_restsOn hlt hC hI (S 31 k) f (S 8 0) (by omega) (by omega) (by omega)) ss_X3_238 (by decide) rfl (by first | decide | exact Nat.le_of_ble_eq_true rfl | simp [cat_rf, cat_i, cat_l, cat_r]) dX3_isAtStake_20 (by decide) (fun _ _ h => h.elim) ?_
      rintro v9 w9 ⟨rfl, rfl⟩
      refine j_st (st := [.int (iI (rst S f (S 8 0) 513 (S 31 k)))]) ?_
      have hb9 := rst_b S f (S 8 0) 513 (S 31 k)
      refine j_if_eq X (tgt := 30) dX3_isAtStake_23 (by decide) (q := 26) rfl (by omega) (fun c_23 => ?_) (fun c_23 => ?_)
      · skip
        refine j_iconst X (a := 0) dX3_isAtStake_30 (q := 31) rfl ?_
        exact j_zret X rfl (Or.inl rfl) dX3_isAtStake_31 (⟨by rw [stk, if_pos (by omega), c_23], rfl⟩) (by decide) (by decide)
      · skip
        refine j_iconst X (a := 1) dX3_isAtStake_26 (q := 27) rfl ?_
        refine j_goto X (tgt := 31) dX3_isAtStake_27 (by decide) ?_
        exact j_zret X rfl (Or.inr rfl) dX3_isAtStake_31 (⟨by rw [stk, if_pos (by omega), show rst S f (S 8 0) 513 (S 31 k) = 1 by omega], rfl⟩) (by decide) (by decide)

set_option maxRecDepth 100000 in
set_option maxHeartbeats 4000000 in
theorem c_X3_countAtStake {l : Launch} (hlt : l.stackTraces = false) {D : va_G} {ca : Nat → ClassId} {base : Nat} {ad : Nat → Int → Nat} {n nc nm : Int} {S : St} {w : Wd} (hC : CW base ca ad n nc nm S w) (hI : IC n nc nm S) (f : Int) (hf : 0 ≤ f ∧ f < nc) : CT l D ca base yX3_countAtStake cX3_countAtStake 4 (some .int) 2 0 0 [.ref (ad 0 0), va_rf (pt (ad 2) (f))] w (fun v w' => v = some (.int (iI (sm (stk S f) nm.toNat))) ∧ w = w') (fun _ _ => False) := by
  obtain ⟨hn, hnc, hnm, e3, e4, e5, h6, h7, h8⟩ := hI.top
  refine CT.mk hlt (by decide +kernel) (by first | exact Nat.le_of_ble_eq_true rfl | simp [lg_sl, cat_rf, cat_i, cat_l, cat_r]) ?_
  intro p e s m args below meth c X htab
  rw [show lv_args 0 [.ref (ad 0 0), va_rf (pt (ad 2) (f))] = [(0, .ref (ad 0 0)), (1, va_rf (pt (ad 2) (f)))] from by first | rfl | simp [lv_args, cat_rf, cat_i, cat_l, cat_r]]
  refine j_iconst X (a := 0) dX3_countAtStake_0 (q := 1) rfl ?_
  refine j_istore_n X (i := 2) dX3_countAtStake_1 rfl (by decide) (q := 2) rfl (lv' := [(2, .int (iI (0))), (0, .ref (ad 0 0)), (1, va_rf (pt (ad 2) (f)))]) (by first | rfl | simp [cat_rf, cat_i, cat_l, cat_r]) ?_
  refine j_iconst X (a := 0) dX3_countAtStake_2 (q := 3) rfl ?_
  refine j_istore_n X (i := 3) dX3_countAtStake_3 rfl (by decide) (q := 4) rfl (lv' := [(3, .int (iI (0))), (2, .int (iI (0))), (0, .ref (ad 0 0)), (1, va_rf (pt (ad 2) (f)))]) (by first | rfl | simp [cat_rf, cat_i, cat_l, cat_r]) ?_
  have loop : ∀ (kk : Nat) (i acc : Int), (0 ≤ i ∧ i ≤ nm) → (0 ≤ acc ∧ acc ≤ i) → (nm - i).toNat = kk → acc = sm (stk S f) i.toNat → J p l e (Rm 2 0 0) s m args below meth c (vx_MQ below (Qn D base (fun v w' => v = some (.int (iI (sm (stk S f) nm.toNat))) ∧ w = w')) (Xn D base (fun _ _ => False)) args s 0 0 (fun q => base ≤ q)) D base 4 0 0 4 [(0, .ref (ad 0 0)), (1, va_rf (pt (ad 2) (f))), (2, .int (iI (acc))), (3, .int (iI (i)))] [] w := by
    intro kk
    induction kk using Nat.strongRecOn with
    | ind kk ih =>
      intro i acc hi hac hkk hv
      refine j_iload_n X dX3_countAtStake_4 (q := 5) rfl 3 rfl ?_
      refine j_aload_n X dX3_countAtStake_5 (q := 6) rfl 0 rfl ?_
      refine j_get X (v := .int (iI (S 4 0))) fl_X3_113 hC.cal rfl dX3_countAtStake_6 (q := 9) rfl ?_
      refine j_icmp_ge X (tgt := 44) dX3_countAtStake_9 (by decide) (q := 12) rfl (by omega) (by omega) (fun c_9 => ?_) (fun c_9 => ?_)
      · skip
        refine j_iload_n X dX3_countAtStake_44 (q := 45) rfl 2 rfl ?_
        exact j_iret X rfl dX3_countAtStake_45 (⟨by rw [hv, show i = nm by omega], rfl⟩) (by decide) (by decide)
      · skip
        refine j_iload_n X dX3_countAtStake_12 (q := 13) rfl 3 rfl ?_
        refine j_aload_n X dX3_countAtStake_13 (q := 14) rfl 0 rfl ?_
        refine j_get X (v := .ref (ad 0 2)) fl_X3_17 hC.cal rfl dX3_countAtStake_14 (q := 17) rfl ?_
        refine j_alen X (t := 3) (N := 200) rfl hC.made rfl dX3_countAtStake_17 (q := 18) rfl ?_
        refine j_icmp_ge X (tgt := 44) dX3_countAtStake_18 (by decide) (q := 21) rfl (by omega) (by omega) (fun c_18 => ?_) (fun c_18 => ?_)
        · skip
          exact absurd c_18 (by omega)
        · skip
          refine j_aload_n X dX3_countAtStake_21 (q := 22) rfl 0 rfl ?_
          refine j_aload_n X dX3_countAtStake_22 (q := 23) rfl 0 rfl ?_
          refine j_get X (v := .ref (ad 0 2)) fl_X3_17 hC.cal rfl dX3_countAtStake_23 (q := 26) rfl ?_
          refine j_iload_n X dX3_countAtStake_26 (q := 27) rfl 3 rfl ?_
          refine j_aald X (t := 3) (i := i) rfl hC.made (by omega) (by decide) dX3_countAtStake_27 (q := 28) rfl ?_
          rw [rw_ptin (ad := ad 3) (c := S 4 0) (i := i) (by omega) (by omega)]
          refine j_aloadq_n X dX3_countAtStake_28 (q := 29) rfl 1 rfl ?_
          refine j_callV X (As := [va_rf (pt (ad 3) (i)), va_rf (pt (ad 2) (f))]) (st := []) hC.cal rfl (c_X3_isAtStake hlt hC hI i f ⟨hi.1, by omega⟩ hf) sv_X3_242 (by decide) rfl (by first | decide | exact Nat.le_of_ble_eq_true rfl | simp [cat_rf, cat_i, cat_l, cat_r]) dX3_countAtStake_29 (by decide) (fun _ _ h => h.elim) ?_
          rintro v9 w9 ⟨rfl, rfl⟩
          refine j_st (st := [.int (iI (stk S f i))]) ?_
          have hb9 := stk_b S f i
          refine j_if_eq X (tgt := 38) dX3_countAtStake_32 (by decide) (q := 35) rfl (by omega) (fun c_32 => ?_) (fun c_32 => ?_)
          · skip
            refine j_iinc X dX3_countAtStake_38 3 rfl (by decide) (q := 41) rfl (lv' := [(3, .int (iI (i + 1))), (0, .ref (ad 0 0)), (1, va_rf (pt (ad 2) (f))), (2, .int (iI (acc)))]) (by first | rfl | simp [cat_rf, cat_i, cat_l, cat_r]) ?_
            refine j_goto X (tgt := 4) dX3_countAtStake_41 (by decide) ?_
            exact j_lv (ih ((nm - (i + 1)).toNat) (by omega) (i + 1) _ (by omega) (by omega) rfl (by rw [sm_s hi.1]; omega)) [1, 2, 3, 0] rfl
          · skip
            refine j_iinc X dX3_countAtStake_35 2 rfl (by decide) (q := 38) rfl (lv' := [(2, .int (iI (acc + 1))), (0, .ref (ad 0 0)), (1, va_rf (pt (ad 2) (f))), (3, .int (iI (i)))]) (by first | rfl | simp [cat_rf, cat_i, cat_l, cat_r]) ?_
            refine j_iinc X dX3_countAtStake_38 3 rfl (by decide) (q := 41) rfl (lv' := [(3, .int (iI (i + 1))), (2, .int (iI (acc + 1))), (0, .ref (ad 0 0)), (1, va_rf (pt (ad 2) (f)))]) (by first | rfl | simp [cat_rf, cat_i, cat_l, cat_r]) ?_
            refine j_goto X (tgt := 4) dX3_countAtStake_41 (by decide) ?_
            exact j_lv (ih ((nm - (i + 1)).toNat) (by omega) (i + 1) _ (by omega) (by omega) rfl (by rw [sm_s hi.1]; omega)) [2, 3, 1, 0] rfl
  exact j_lv (loop _ 0 0 (by omega) (by decide) rfl rfl) [2, 3, 1, 0] rfl

set_option maxRecDepth 100000 in
set_option maxHeartbeats 4000000 in
theorem c_X3_atStake {l : Launch} (hlt : l.stackTraces = false) {D : va_G} {ca : Nat → ClassId} {base : Nat} {ad : Nat → Int → Nat} {n nc nm : Int} {S : St} {w : Wd} (hC : CW base ca ad n nc nm S w) (hI : IC n nc nm S) (z : Int) (hz : -2147483648 ≤ z ∧ z ≤ 2147483647) : CT l D ca base yX3_atStake cX3_atStake 3 (some .int) 3 1 6 [.ref (ad 0 0), .int (iI (z))] w (fun v w' => (0 ≤ z ∧ z < n) ∧ v = some (.int (iI (if S 15 z < 0 then 0 else sm (stk S (S 15 z)) nm.toNat))) ∧ w = w') (fun E w' => ¬ (0 ≤ z ∧ z < n) ∧ E = nIO ∧ w = w') := by
  obtain ⟨hn, hnc, hnm, e3, e4, e5, h6, h7, h8⟩ := hI.top
  refine CT.mk hlt (by decide +kernel) (by first | exact Nat.le_of_ble_eq_true rfl | simp [lg_sl, cat_rf, cat_i, cat_l, cat_r]) ?_
  intro p e s m args below meth c X htab
  rw [show lv_args 0 [.ref (ad 0 0), .int (iI (z))] = [(0, .ref (ad 0 0)), (1, .int (iI (z)))] from by first | rfl | simp [lv_args, cat_rf, cat_i, cat_l, cat_r]]
  refine j_aload_n X dX3_atStake_0 (q := 1) rfl 0 rfl ?_
  refine j_iload_n X dX3_atStake_1 (q := 2) rfl 1 rfl ?_
  refine j_callV X (As := [.int (iI (z))]) (st := []) hC.cal rfl (c_X3_known hlt hC hI z hz) sv_X3_54 (by decide) rfl (by first | decide | exact Nat.le_of_ble_eq_true rfl | simp [cat_rf, cat_i, cat_l, cat_r]) dX3_atStake_2 (by decide) (fun E w' h => jx_out X htab h (by decide) (by decide)) ?_
  rintro v9 w9 ⟨k1, rfl, rfl⟩
  refine j_st (st := [va_rf (pt (ad 1) (z))]) ?_
  obtain ⟨f_3_0, f_3_1, f_3_2, f_3_3, f_3_4, f_3_5, f_3_6, f_3_7, f_3_8⟩ := hI.ins k1.1 k1.2
  refine j_astoreq_n X (i := 2) dX3_atStake_5 rfl (by decide) (q := 6) rfl (lv' := [(2, va_rf (pt (ad 1) (z))), (0, .ref (ad 0 0)), (1, .int (iI (z)))]) (by first | rfl | simp [cat_rf, cat_i, cat_l, cat_r]) ?_
  refine j_aloadq_n X dX3_atStake_6 (q := 7) rfl 0 rfl ?_
  refine j_getp X (v := va_rf (pt (ad 2) (S 15 z))) fl_X3_95 k1.1 (hC.ins k1.1 k1.2) rfl dX3_atStake_7 (q := 10) rfl ?_
  refine j_ifnonnullp X (tgt := 17) dX3_atStake_10 (by decide) (q := 13) rfl (fun c_10 => ?_) (fun c_10 => ?_)
  · skip
    obtain ⟨f_4_0, f_4_1, f_4_2, f_4_3, f_4_4, f_4_5, f_4_6, f_4_7, f_4_8, f_4_9⟩ := hI.kal c_10 (by omega)
    refine j_aload_n X dX3_atStake_17 (q := 18) rfl 1 rfl ?_
    refine j_aloadq_n X dX3_atStake_18 (q := 19) rfl 0 rfl ?_
    refine j_getp X (v := va_rf (pt (ad 2) (S 15 z))) fl_X3_95 k1.1 (hC.ins k1.1 k1.2) rfl dX3_atStake_19 (q := 22) rfl ?_
    refine j_callV X (As := [va_rf (pt (ad 2) (S 15 z))]) (st := []) hC.cal rfl (c_X3_countAtStake hlt hC hI (S 15 z) ⟨c_10, by omega⟩) sv_X3_231 (by decide) rfl (by first | decide | exact Nat.le_of_ble_eq_true rfl | simp [cat_rf, cat_i, cat_l, cat_r]) dX3_atStake_22 (by decide) (fun _ _ h => h.elim) ?_
    rintro v9 w9 ⟨rfl, rfl⟩
    refine j_st (st := [.int (iI (sm (stk S (S 15 z)) nm.toNat))]) ?_
    exact j_iret X rfl dX3_atStake_25 (⟨k1, by rw [if_neg (by omega)], rfl⟩) (by decide) (by decide)
  · skip
    refine j_iconst X (a := 0) dX3_atStake_13 (q := 14) rfl ?_
    refine j_goto X (tgt := 25) dX3_atStake_14 (by decide) ?_
    exact j_iret X rfl dX3_atStake_25 (⟨k1, by rw [if_pos c_10], rfl⟩) (by decide) (by decide)

set_option maxRecDepth 100000 in
set_option maxHeartbeats 4000000 in
theorem c_X3_logRecalls {l : Launch} (hlt : l.stackTraces = false) {D : va_G} {ca : Nat → ClassId} {base : Nat} {ad : Nat → Int → Nat} {n nc nm : Int} {S : St} {w : Wd} (hC : CW base ca ad n nc nm S w) (hI : IC n nc nm S) (k : Int) (hk : 0 ≤ k ∧ k < nm) : CT l D ca base yX3_logRecalls cX3_logRecalls 4 (some .boolean) 1 0 0 [.ref (ad 0 0), va_rf (pt (ad 3) (k))] w (fun v w' => v = some (.int (iI (lrc S k (S 5 0).toNat))) ∧ w = w') (fun _ _ => False) := by
  obtain ⟨hn, hnc, hnm, e3, e4, e5, h6, h7, h8⟩ := hI.top
  refine CT.mk hlt (by decide +kernel) (by first | exact Nat.le_of_ble_eq_true rfl | simp [lg_sl, cat_rf, cat_i, cat_l, cat_r]) ?_
  intro p e s m args below meth c X htab
  rw [show lv_args 0 [.ref (ad 0 0), va_rf (pt (ad 3) (k))] = [(0, .ref (ad 0 0)), (1, va_rf (pt (ad 3) (k)))] from by first | rfl | simp [lv_args, cat_rf, cat_i, cat_l, cat_r]]
  obtain ⟨f_5_0, f_5_1, f_5_2⟩ := hI.mea hk.1 hk.2
  refine j_iconst X (a := 0) dX3_logRecalls_0 (q := 1) rfl ?_
  refine j_istore_n X (i := 2) dX3_logRecalls_1 rfl (by decide) (q := 2) rfl (lv' := [(2, .int (iI (0))), (0, .ref (ad 0 0)), (1, va_rf (pt (ad 3) (k)))]) (by first | rfl | simp [cat_rf, cat_i, cat_l, cat_r]) ?_
  have loop : ∀ (kk : Nat) (i : Int), (0 ≤ i ∧ i ≤ S 5 0) → (S 5 0 - i).toNat = kk → lrc S k i.toNat = 0 → J p l e (Rm 1 0 0) s m args below meth c (vx_MQ below (Qn D base (fun v w' => v = some (.int (iI (lrc S k (S 5 0).toNat))) ∧ w = w')) (Xn D base (fun _ _ => False)) args s 0 0 (fun q => base ≤ q)) D base 4 0 0 2 [(0, .ref (ad 0 0)), (1, va_rf (pt (ad 3) (k))), (2, .int (iI (i)))] [] w := by
    intro kk
    induction kk using Nat.strongRecOn with
    | ind kk ih =>
      intro i hi hkk hv
      refine j_iload_n X dX3_logRecalls_2 (q := 3) rfl 2 rfl ?_
      refine j_aload_n X dX3_logRecalls_3 (q := 4) rfl 0 rfl ?_
      refine j_get X (v := .int (iI (S 5 0))) fl_X3_92 hC.cal rfl dX3_logRecalls_4 (q := 7) rfl ?_
      refine j_icmp_ge X (tgt := 74) dX3_logRecalls_7 (by decide) (q := 10) rfl (by omega) (by omega) (fun c_7 => ?_) (fun c_7 => ?_)
      · skip
        refine j_iconst X (a := 0) dX3_logRecalls_74 (q := 75) rfl ?_
        exact j_zret X rfl (Or.inl rfl) dX3_logRecalls_75 (⟨by rw [show S 5 0 = i by omega, hv], rfl⟩) (by decide) (by decide)
      · skip
        refine j_iload_n X dX3_logRecalls_10 (q := 11) rfl 2 rfl ?_
        refine j_aload_n X dX3_logRecalls_11 (q := 12) rfl 0 rfl ?_
        refine j_get X (v := .ref (ad 0 3)) fl_X3_23 hC.cal rfl dX3_logRecalls_12 (q := 15) rfl ?_
        refine j_alen X (t := 4) (N := 512) rfl hC.log rfl dX3_logRecalls_15 (q := 16) rfl ?_
        refine j_icmp_ge X (tgt := 74) dX3_logRecalls_16 (by decide) (q := 19) rfl (by omega) (by omega) (fun c_16 => ?_) (fun c_16 => ?_)
        · skip
          exact absurd c_16 (by omega)
        · skip
          refine j_aload_n X dX3_logRecalls_19 (q := 20) rfl 0 rfl ?_
          refine j_get X (v := .ref (ad 0 3)) fl_X3_23 hC.cal rfl dX3_logRecalls_20 (q := 23) rfl ?_
          refine j_iload_n X dX3_logRecalls_23 (q := 24) rfl 2 rfl ?_
          refine j_aald X (t := 4) (i := i) rfl hC.log (by omega) (by decide) dX3_logRecalls_24 (q := 25) rfl ?_
          rw [rw_ptin (ad := ad 2) (c := S 5 0) (i := i) (by omega) (by omega)]
          refine j_astoreq_n X (i := 3) dX3_logRecalls_25 rfl (by decide) (q := 26) rfl (lv' := [(3, va_rf (pt (ad 2) (i))), (0, .ref (ad 0 0)), (1, va_rf (pt (ad 3) (k))), (2, .int (iI (i)))]) (by first | rfl | simp [cat_rf, cat_i, cat_l, cat_r]) ?_
          refine j_aloadq_n X dX3_logRecalls_26 (q := 27) rfl 0 rfl ?_
          refine j_ifnullp X (tgt := 68) dX3_logRecalls_27 (by decide) (q := 30) rfl (fun c_27 => ?_) (fun c_27 => ?_)
          · skip
            exact absurd c_27 (by omega)
          · skip
            obtain ⟨f_6_0, f_6_1, f_6_2, f_6_3, f_6_4, f_6_5, f_6_6, f_6_7, f_6_8, f_6_9⟩ := hI.kal c_27 (by omega)
            refine j_aloadq_n X dX3_logRecalls_30 (q := 31) rfl 0 rfl ?_
            refine j_getp X (v := .int (iI (S 25 i))) fl_X3_132 c_27 (hC.kal c_27 (by omega)) rfl dX3_logRecalls_31 (q := 34) rfl ?_
            refine j_if_eq X (tgt := 68) dX3_logRecalls_34 (by decide) (q := 37) rfl (by omega) (fun c_34 => ?_) (fun c_34 => ?_)
            · skip
              refine j_iinc X dX3_logRecalls_68 3 rfl (by decide) (q := 71) rfl (lv' := [(2, .int (iI (i + 1))), (3, va_rf (pt (ad 2) (i))), (0, .ref (ad 0 0)), (1, va_rf (pt (ad 3) (k)))]) (by first | rfl | simp [cat_rf, cat_i, cat_l, cat_r]) ?_
              refine j_goto X (tgt := 2) dX3_logRecalls_71 (by decide) ?_
              exact j_lv (ih ((S 5 0 - (i + 1)).toNat) (by omega) (i + 1) (by omega) rfl (by rw [lrc_s hi.1 hv]; exact tf_f (by omega))) [2, 3, 0] rfl
            · skip
              refine j_aloadq_n X dX3_logRecalls_37 (q := 38) rfl 0 rfl ?_
              refine j_getp X (v := .int (iI (S 20 i))) fl_X3_161 c_27 (hC.kal c_27 (by omega)) rfl dX3_logRecalls_38 (q := 41) rfl ?_
              refine j_aloadq_n X dX3_logRecalls_41 (q := 42) rfl 2 rfl ?_
              refine j_getp X (v := .int (iI (S 30 k))) fl_X3_246 hk.1 (hC.mea hk.1 hk.2) rfl dX3_logRecalls_42 (q := 45) rfl ?_
              refine j_icmp_le X (tgt := 68) dX3_logRecalls_45 (by decide) (q := 48) rfl (by omega) (by omega) (fun c_45 => ?_) (fun c_45 => ?_)
              · skip
                refine j_iinc X dX3_logRecalls_68 3 rfl (by decide) (q := 71) rfl (lv' := [(2, .int (iI (i + 1))), (3, va_rf (pt (ad 2) (i))), (0, .ref (ad 0 0)), (1, va_rf (pt (ad 3) (k)))]) (by first | rfl | simp [cat_rf, cat_i, cat_l, cat_r]) ?_
                refine j_goto X (tgt := 2) dX3_logRecalls_71 (by decide) ?_
                exact j_lv (ih ((S 5 0 - (i + 1)).toNat) (by omega) (i + 1) (by omega) rfl (by rw [lrc_s hi.1 hv]; exact tf_f (by omega))) [2, 3, 0] rfl
              · skip
                refine j_aloadq_n X dX3_logRecalls_48 (q := 49) rfl 2 rfl ?_
                refine j_getp X (v := va_rf (pt (ad 2) (S 31 k))) fl_X3_237 hk.1 (hC.mea hk.1 hk.2) rfl dX3_logRecalls_49 (q := 52) rfl ?_
                refine j_aloadq_n X dX3_logRecalls_52 (q := 53) rfl 0 rfl ?_
                refine j_getp X (v := va_rf (pt (ad 2) (S 23 i))) fl_X3_179 c_27 (hC.kal c_27 (by omega)) rfl dX3_logRecalls_53 (q := 56) rfl ?_
                refine j_aloadq_n X dX3_logRecalls_56 (q := 57) rfl 0 rfl ?_
                refine j_getp X (v := .int (iI (S 20 i))) fl_X3_161 c_27 (hC.kal c_27 (by omega)) rfl dX3_logRecalls_57 (q := 60) rfl ?_
                refine j_callS X (As := [va_rf (pt (ad 2) (S 31 k)), va_rf (pt (ad 2) (S 23 i)), .int (iI (S 20 i))]) (st := [])  (c_X3_restsOn hlt hC hI (S 31 k) (S 23 i) (S 20 i) (by omega) (by omega) (by omega)) ss_X3_238 (by decide) rfl (by first | decide | exact Nat.le_of_ble_eq_true rfl | simp [cat_rf, cat_i, cat_l, cat_r]) dX3_logRecalls_60 (by decide) (fun _ _ h => h.elim) ?_
                rintro v9 w9 ⟨rfl, rfl⟩
                refine j_st (st := [.int (iI (rst S (S 23 i) (S 20 i) 513 (S 31 k)))]) ?_
                have hb9 := rst_b S (S 23 i) (S 20 i) 513 (S 31 k)
                refine j_if_eq X (tgt := 68) dX3_logRecalls_63 (by decide) (q := 66) rfl (by omega) (fun c_63 => ?_) (fun c_63 => ?_)
                · skip
                  refine j_iinc X dX3_logRecalls_68 3 rfl (by decide) (q := 71) rfl (lv' := [(2, .int (iI (i + 1))), (3, va_rf (pt (ad 2) (i))), (0, .ref (ad 0 0)), (1, va_rf (pt (ad 3) (k)))]) (by first | rfl | simp [cat_rf, cat_i, cat_l, cat_r]) ?_
                  refine j_goto X (tgt := 2) dX3_logRecalls_71 (by decide) ?_
                  exact j_lv (ih ((S 5 0 - (i + 1)).toNat) (by omega) (i + 1) (by omega) rfl (by rw [lrc_s hi.1 hv]; exact tf_f (by omega))) [2, 3, 0] rfl
                · skip
                  refine j_iconst X (a := 1) dX3_logRecalls_66 (q := 67) rfl ?_
                  exact j_zret X rfl (Or.inr rfl) dX3_logRecalls_67 (⟨by rw [lrc_to (c := S 5 0) hi.1 (by omega) hv (tf_t (by omega))], rfl⟩) (by decide) (by decide)
  exact j_lv (loop _ 0 (by omega) rfl rfl) [1, 2, 0] rfl

set_option maxRecDepth 100000 in
set_option maxHeartbeats 4000000 in
theorem c_X3_calledBackByLog {l : Launch} (hlt : l.stackTraces = false) {D : va_G} {ca : Nat → ClassId} {base : Nat} {ad : Nat → Int → Nat} {n nc nm : Int} {S : St} {w : Wd} (hC : CW base ca ad n nc nm S w) (hI : IC n nc nm S) : CT l D ca base yX3_calledBackByLog cX3_calledBackByLog 3 (some .int) 2 0 0 [.ref (ad 0 0)] w (fun v w' => v = some (.int (iI (sm (fun i => lrc S i (S 5 0).toNat) nm.toNat))) ∧ w = w') (fun _ _ => False) := by
  obtain ⟨hn, hnc, hnm, e3, e4, e5, h6, h7, h8⟩ := hI.top
  refine CT.mk hlt (by decide +kernel) (by first | exact Nat.le_of_ble_eq_true rfl | simp [lg_sl, cat_rf, cat_i, cat_l, cat_r]) ?_
  intro p e s m args below meth c X htab
  rw [show lv_args 0 [.ref (ad 0 0)] = [(0, .ref (ad 0 0))] from by first | rfl | simp [lv_args, cat_rf, cat_i, cat_l, cat_r]]
  refine j_iconst X (a := 0) dX3_calledBackByLog_0 (q := 1) rfl ?_
  refine j_istore_n X (i := 1) dX3_calledBackByLog_1 rfl (by decide) (q := 2) rfl (lv' := [(1, .int (iI (0))), (0, .ref (ad 0 0))]) (by first | rfl | simp [cat_rf, cat_i, cat_l, cat_r]) ?_
  refine j_iconst X (a := 0) dX3_calledBackByLog_2 (q := 3) rfl ?_
  refine j_istore_n X (i := 2) dX3_calledBackByLog_3 rfl (by decide) (q := 4) rfl (lv' := [(2, .int (iI (0))), (1, .int (iI (0))), (0, .ref (ad 0 0))]) (by first | rfl | simp [cat_rf, cat_i, cat_l, cat_r]) ?_
  have loop : ∀ (kk : Nat) (i acc : Int), (0 ≤ i ∧ i ≤ nm) → (0 ≤ acc ∧ acc ≤ i) → (nm - i).toNat = kk → acc = sm (fun i => lrc S i (S 5 0).toNat) i.toNat → J p l e (Rm 2 0 0) s m args below meth c (vx_MQ below (Qn D base (fun v w' => v = some (.int (iI (sm (fun i => lrc S i (S 5 0).toNat) nm.toNat))) ∧ w = w')) (Xn D base (fun _ _ => False)) args s 0 0 (fun q => base ≤ q)) D base 3 0 0 4 [(0, .ref (ad 0 0)), (1, .int (iI (acc))), (2, .int (iI (i)))] [] w := by
    intro kk
    induction kk using Nat.strongRecOn with
    | ind kk ih =>
      intro i acc hi hac hkk hv
      refine j_iload_n X dX3_calledBackByLog_4 (q := 5) rfl 2 rfl ?_
      refine j_aload_n X dX3_calledBackByLog_5 (q := 6) rfl 0 rfl ?_
      refine j_get X (v := .int (iI (S 4 0))) fl_X3_113 hC.cal rfl dX3_calledBackByLog_6 (q := 9) rfl ?_
      refine j_icmp_ge X (tgt := 52) dX3_calledBackByLog_9 (by decide) (q := 12) rfl (by omega) (by omega) (fun c_9 => ?_) (fun c_9 => ?_)
      · skip
        refine j_iload_n X dX3_calledBackByLog_52 (q := 53) rfl 1 rfl ?_
        exact j_iret X rfl dX3_calledBackByLog_53 (⟨by rw [hv, show i = nm by omega], rfl⟩) (by decide) (by decide)
      · skip
        refine j_iload_n X dX3_calledBackByLog_12 (q := 13) rfl 2 rfl ?_
        refine j_aload_n X dX3_calledBackByLog_13 (q := 14) rfl 0 rfl ?_
        refine j_get X (v := .ref (ad 0 2)) fl_X3_17 hC.cal rfl dX3_calledBackByLog_14 (q := 17) rfl ?_
        refine j_alen X (t := 3) (N := 200) rfl hC.made rfl dX3_calledBackByLog_17 (q := 18) rfl ?_
        refine j_icmp_ge X (tgt := 52) dX3_calledBackByLog_18 (by decide) (q := 21) rfl (by omega) (by omega) (fun c_18 => ?_) (fun c_18 => ?_)
        · skip
          exact absurd c_18 (by omega)
        · skip
          refine j_aload_n X dX3_calledBackByLog_21 (q := 22) rfl 0 rfl ?_
          refine j_get X (v := .ref (ad 0 2)) fl_X3_17 hC.cal rfl dX3_calledBackByLog_22 (q := 25) rfl ?_
          refine j_iload_n X dX3_calledBackByLog_25 (q := 26) rfl 2 rfl ?_
          refine j_aald X (t := 3) (i := i) rfl hC.made (by omega) (by decide) dX3_calledBackByLog_26 (q := 27) rfl ?_
          rw [rw_ptin (ad := ad 3) (c := S 4 0) (i := i) (by omega) (by omega)]
          refine j_ifnullp X (tgt := 46) dX3_calledBackByLog_27 (by decide) (q := 30) rfl (fun c_27 => ?_) (fun c_27 => ?_)
          · skip
            exact absurd c_27 (by omega)
          · skip
            refine j_aload_n X dX3_calledBackByLog_30 (q := 31) rfl 0 rfl ?_
            refine j_aload_n X dX3_calledBackByLog_31 (q := 32) rfl 0 rfl ?_
            refine j_get X (v := .ref (ad 0 2)) fl_X3_17 hC.cal rfl dX3_calledBackByLog_32 (q := 35) rfl ?_
            refine j_iload_n X dX3_calledBackByLog_35 (q := 36) rfl 2 rfl ?_
            refine j_aald X (t := 3) (i := i) rfl hC.made (by omega) (by decide) dX3_calledBackByLog_36 (q := 37) rfl ?_
            rw [rw_ptin (ad := ad 3) (c := S 4 0) (i := i) (by omega) (by omega)]
            refine j_callV X (As := [va_rf (pt (ad 3) (i))]) (st := []) hC.cal rfl (c_X3_logRecalls hlt hC hI i ⟨hi.1, by omega⟩) sv_X3_227 (by decide) rfl (by first | decide | exact Nat.le_of_ble_eq_true rfl | simp [cat_rf, cat_i, cat_l, cat_r]) dX3_calledBackByLog_37 (by decide) (fun _ _ h => h.elim) ?_
            rintro v9 w9 ⟨rfl, rfl⟩
            refine j_st (st := [.int (iI (lrc S i (S 5 0).toNat))]) ?_
            have hb9 := lrc_b S i (S 5 0).toNat
            refine j_if_eq X (tgt := 46) dX3_calledBackByLog_40 (by decide) (q := 43) rfl (by omega) (fun c_40 => ?_) (fun c_40 => ?_)
            · skip
              refine j_iinc X dX3_calledBackByLog_46 2 rfl (by decide) (q := 49) rfl (lv' := [(2, .int (iI (i + 1))), (0, .ref (ad 0 0)), (1, .int (iI (acc)))]) (by first | rfl | simp [cat_rf, cat_i, cat_l, cat_r]) ?_
              refine j_goto X (tgt := 4) dX3_calledBackByLog_49 (by decide) ?_
              exact j_lv (ih ((nm - (i + 1)).toNat) (by omega) (i + 1) _ (by omega) (by omega) rfl (by rw [sm_s hi.1]; omega)) [1, 2, 0] rfl
            · skip
              refine j_iinc X dX3_calledBackByLog_43 1 rfl (by decide) (q := 46) rfl (lv' := [(1, .int (iI (acc + 1))), (0, .ref (ad 0 0)), (2, .int (iI (i)))]) (by first | rfl | simp [cat_rf, cat_i, cat_l, cat_r]) ?_
              refine j_iinc X dX3_calledBackByLog_46 2 rfl (by decide) (q := 49) rfl (lv' := [(2, .int (iI (i + 1))), (1, .int (iI (acc + 1))), (0, .ref (ad 0 0))]) (by first | rfl | simp [cat_rf, cat_i, cat_l, cat_r]) ?_
              refine j_goto X (tgt := 4) dX3_calledBackByLog_49 (by decide) ?_
              exact j_lv (ih ((nm - (i + 1)).toNat) (by omega) (i + 1) _ (by omega) (by omega) rfl (by rw [sm_s hi.1]; omega)) [2, 1, 0] rfl
  exact j_lv (loop _ 0 0 (by omega) (by decide) rfl rfl) [2, 1, 0] rfl

set_option maxRecDepth 100000 in
set_option maxHeartbeats 4000000 in
theorem c_X3_countAhead {l : Launch} (hlt : l.stackTraces = false) {D : va_G} {ca : Nat → ClassId} {base : Nat} {ad : Nat → Int → Nat} {n nc nm : Int} {S : St} {w : Wd} (hC : CW base ca ad n nc nm S w) (hI : IC n nc nm S) (u : Int) (hu : 0 ≤ u ∧ u < n) (hj : 0 ≤ S 15 u) : CT l D ca base yX3_countAhead cX3_countAhead 10 (some .int) 1 0 0 [.ref (ad 0 0), va_rf (pt (ad 1) (u)), va_rf (pt (ad 2) (S 15 u))] w (fun v w' => v = some (.int (iI (ahd S u))) ∧ w = w') (fun _ _ => False) := by
  obtain ⟨hn, hnc, hnm, e3, e4, e5, h6, h7, h8⟩ := hI.top
  refine CT.mk hlt (by decide +kernel) (by first | exact Nat.le_of_ble_eq_true rfl | simp [lg_sl, cat_rf, cat_i, cat_l, cat_r]) ?_
  intro p e s m args below meth c X htab
  rw [show lv_args 0 [.ref (ad 0 0), va_rf (pt (ad 1) (u)), va_rf (pt (ad 2) (S 15 u))] = [(0, .ref (ad 0 0)), (1, va_rf (pt (ad 1) (u))), (2, va_rf (pt (ad 2) (S 15 u)))] from by first | rfl | simp [lv_args, cat_rf, cat_i, cat_l, cat_r]]
  obtain ⟨f_7_0, f_7_1, f_7_2, f_7_3, f_7_4, f_7_5, f_7_6, f_7_7, f_7_8⟩ := hI.ins hu.1 hu.2
  refine j_aloadq_n X dX3_countAhead_0 (q := 1) rfl 1 rfl ?_
  refine j_aloadq_n X dX3_countAhead_1 (q := 2) rfl 2 rfl ?_
  refine j_callS X (As := [va_rf (pt (ad 1) (u)), va_rf (pt (ad 2) (S 15 u))]) (st := [])  (c_X3_dueDay hlt hC hI u (S 15 u) hu ⟨hj, by omega⟩) ss_X3_182 (by decide) rfl (by first | decide | exact Nat.le_of_ble_eq_true rfl | simp [cat_rf, cat_i, cat_l, cat_r]) dX3_countAhead_2 (by decide) (fun _ _ h => h.elim) ?_
  rintro v9 w9 ⟨rfl, rfl⟩
  refine j_st (st := [.int (iI (due S u))]) ?_
  have hdu : 0 ≤ due S u ∧ due S u ≤ 600000 := by
    obtain ⟨a1, a2, -⟩ := hI.kal hj (by omega)
    unfold due; omega
  refine j_istore_n X (i := 3) dX3_countAhead_5 rfl (by decide) (q := 6) rfl (lv' := [(3, .int (iI (due S u))), (0, .ref (ad 0 0)), (1, va_rf (pt (ad 1) (u))), (2, va_rf (pt (ad 2) (S 15 u)))]) (by first | rfl | simp [cat_rf, cat_i, cat_l, cat_r]) ?_
  refine j_iconst X (a := 0) dX3_countAhead_6 (q := 7) rfl ?_
  refine j_istore X (i := 4) dX3_countAhead_7 (by decide) (q := 9) rfl (lv' := [(4, .int (iI (0))), (3, .int (iI (due S u))), (0, .ref (ad 0 0)), (1, va_rf (pt (ad 1) (u))), (2, va_rf (pt (ad 2) (S 15 u)))]) (by first | rfl | simp [cat_rf, cat_i, cat_l, cat_r]) ?_
  refine j_aload_n X dX3_countAhead_9 (q := 10) rfl 2 rfl ?_
  refine j_get X (v := .ref (ad 0 1)) fl_X3_11 hC.cal rfl dX3_countAhead_10 (q := 13) rfl ?_
  refine j_astore X (i := 5) dX3_countAhead_13 (by decide) (q := 15) rfl (lv' := [(5, .ref (ad 0 1)), (4, .int (iI (0))), (3, .int (iI (due S u))), (0, .ref (ad 0 0)), (1, va_rf (pt (ad 1) (u))), (2, va_rf (pt (ad 2) (S 15 u)))]) (by first | rfl | simp [cat_rf, cat_i, cat_l, cat_r]) ?_
  refine j_aload X dX3_countAhead_15 (q := 17) rfl 0 rfl ?_
  refine j_alen X (t := 2) (N := 12) rfl hC.told rfl dX3_countAhead_17 (q := 18) rfl ?_
  refine j_istore X (i := 6) dX3_countAhead_18 (by decide) (q := 20) rfl (lv' := [(6, .int (iI ((12 : Nat)))), (5, .ref (ad 0 1)), (4, .int (iI (0))), (3, .int (iI (due S u))), (0, .ref (ad 0 0)), (1, va_rf (pt (ad 1) (u))), (2, va_rf (pt (ad 2) (S 15 u)))]) (by first | rfl | simp [cat_rf, cat_i, cat_l, cat_r]) ?_
  refine j_iconst X (a := 0) dX3_countAhead_20 (q := 21) rfl ?_
  refine j_istore X (i := 7) dX3_countAhead_21 (by decide) (q := 23) rfl (lv' := [(7, .int (iI (0))), (6, .int (iI ((12 : Nat)))), (5, .ref (ad 0 1)), (4, .int (iI (0))), (3, .int (iI (due S u))), (0, .ref (ad 0 0)), (1, va_rf (pt (ad 1) (u))), (2, va_rf (pt (ad 2) (S 15 u)))]) (by first | rfl | simp [cat_rf, cat_i, cat_l, cat_r]) ?_
  have loop : ∀ (kk : Nat) (i acc : Int), (0 ≤ i ∧ i ≤ 12) → (0 ≤ acc ∧ acc ≤ i) → (12 - i).toNat = kk → acc = sm (ahc S u) i.toNat → J p l e (Rm 1 0 0) s m args below meth c (vx_MQ below (Qn D base (fun v w' => v = some (.int (iI (ahd S u))) ∧ w = w')) (Xn D base (fun _ _ => False)) args s 0 0 (fun q => base ≤ q)) D base 10 0 0 23 [(0, .ref (ad 0 0)), (1, va_rf (pt (ad 1) (u))), (3, .int (iI (due S u))), (4, .int (iI (acc))), (5, .ref (ad 0 1)), (6, .int (iI ((12 : Nat)))), (7, .int (iI (i)))] [] w := by
    intro kk
    induction kk using Nat.strongRecOn with
    | ind kk ih =>
      intro i acc hi hac hkk hv
      refine j_iload X dX3_countAhead_23 (q := 25) rfl 6 rfl ?_
      refine j_iload X dX3_countAhead_25 (q := 27) rfl 5 rfl ?_
      refine j_icmp_ge X (tgt := 95) dX3_countAhead_27 (by decide) (q := 30) rfl (by omega) (by omega) (fun c_27 => ?_) (fun c_27 => ?_)
      · skip
        refine j_iload X dX3_countAhead_95 (q := 97) rfl 3 rfl ?_
        exact j_iret X rfl dX3_countAhead_97 (⟨by rw [hv, show i = 12 by omega]; rfl, rfl⟩) (by decide) (by decide)
      · skip
        refine j_aload X dX3_countAhead_30 (q := 32) rfl 4 rfl ?_
        refine j_iload X dX3_countAhead_32 (q := 34) rfl 6 rfl ?_
        refine j_aald X (t := 2) (i := i) rfl hC.told (by omega) (by decide) dX3_countAhead_34 (q := 35) rfl ?_
        rw [rw_pt (by omega)]
        refine j_astoreq X (i := 8) dX3_countAhead_35 (by decide) (q := 37) rfl (lv' := [(8, va_rf (pt (ad 1) (if i < S 3 0 then i else -1))), (0, .ref (ad 0 0)), (1, va_rf (pt (ad 1) (u))), (3, .int (iI (due S u))), (4, .int (iI (acc))), (5, .ref (ad 0 1)), (6, .int (iI ((12 : Nat)))), (7, .int (iI (i)))]) (by first | rfl | simp [cat_rf, cat_i, cat_l, cat_r]) ?_
        refine j_aloadq X dX3_countAhead_37 (q := 39) rfl 0 rfl ?_
        refine j_ifnullp X (tgt := 89) dX3_countAhead_39 (by decide) (q := 42) rfl (fun c_39 => ?_) (fun c_39 => ?_)
        · skip
          refine j_iinc X dX3_countAhead_89 7 rfl (by decide) (q := 92) rfl (lv' := [(7, .int (iI (i + 1))), (8, va_rf (pt (ad 1) (if i < S 3 0 then i else -1))), (0, .ref (ad 0 0)), (1, va_rf (pt (ad 1) (u))), (3, .int (iI (due S u))), (4, .int (iI (acc))), (5, .ref (ad 0 1)), (6, .int (iI ((12 : Nat))))]) (by first | rfl | simp [cat_rf, cat_i, cat_l, cat_r]) ?_
          refine j_goto X (tgt := 23) dX3_countAhead_92 (by decide) ?_
          exact j_lv (ih ((12 - (i + 1)).toNat) (by omega) (i + 1) _ (by omega) (by omega) rfl (by rw [sm_s hi.1, ahc, tf_f (by split at c_39 <;> omega)]; omega)) [2, 3, 4, 5, 6, 7, 0] rfl
        · skip
          have hin : i < n := by split at c_39 <;> omega
          rw [if_pos (by omega)]
          obtain ⟨f_8_0, f_8_1, f_8_2, f_8_3, f_8_4, f_8_5, f_8_6, f_8_7, f_8_8⟩ := hI.ins hi.1 hin
          refine j_aloadq X dX3_countAhead_42 (q := 44) rfl 0 rfl ?_
          refine j_getp X (v := va_rf (pt (ad 2) (S 15 i))) fl_X3_95 hi.1 (hC.ins hi.1 hin) rfl dX3_countAhead_44 (q := 47) rfl ?_
          refine j_ifnullp X (tgt := 89) dX3_countAhead_47 (by decide) (q := 50) rfl (fun c_47 => ?_) (fun c_47 => ?_)
          · skip
            refine j_iinc X dX3_countAhead_89 7 rfl (by decide) (q := 92) rfl (lv' := [(7, .int (iI (i + 1))), (8, va_rf (pt (ad 1) (i))), (0, .ref (ad 0 0)), (1, va_rf (pt (ad 1) (u))), (3, .int (iI (due S u))), (4, .int (iI (acc))), (5, .ref (ad 0 1)), (6, .int (iI ((12 : Nat))))]) (by first | rfl | simp [cat_rf, cat_i, cat_l, cat_r]) ?_
            refine j_goto X (tgt := 23) dX3_countAhead_92 (by decide) ?_
            exact j_lv (ih ((12 - (i + 1)).toNat) (by omega) (i + 1) _ (by omega) (by omega) rfl (by rw [sm_s hi.1, ahc, tf_f (by omega)]; omega)) [2, 3, 4, 5, 6, 7, 0] rfl
          · skip
            refine j_aloadq X dX3_countAhead_50 (q := 52) rfl 0 rfl ?_
            refine j_aloadq X dX3_countAhead_52 (q := 54) rfl 0 rfl ?_
            refine j_getp X (v := va_rf (pt (ad 2) (S 15 i))) fl_X3_95 hi.1 (hC.ins hi.1 hin) rfl dX3_countAhead_54 (q := 57) rfl ?_
            refine j_callS X (As := [va_rf (pt (ad 1) (i)), va_rf (pt (ad 2) (S 15 i))]) (st := [])  (c_X3_dueDay hlt hC hI i (S 15 i) ⟨hi.1, hin⟩ ⟨c_47, by omega⟩) ss_X3_182 (by decide) rfl (by first | decide | exact Nat.le_of_ble_eq_true rfl | simp [cat_rf, cat_i, cat_l, cat_r]) dX3_countAhead_57 (by decide) (fun _ _ h => h.elim) ?_
            rintro v9 w9 ⟨rfl, rfl⟩
            refine j_st (st := [.int (iI (due S i))]) ?_
            have hdi : 0 ≤ due S i ∧ due S i ≤ 600000 := by
              obtain ⟨a1, a2, -⟩ := hI.kal c_47 (by omega)
              unfold due; omega
            refine j_istore X (i := 9) dX3_countAhead_60 (by decide) (q := 62) rfl (lv' := [(9, .int (iI (due S i))), (8, va_rf (pt (ad 1) (i))), (0, .ref (ad 0 0)), (1, va_rf (pt (ad 1) (u))), (3, .int (iI (due S u))), (4, .int (iI (acc))), (5, .ref (ad 0 1)), (6, .int (iI ((12 : Nat)))), (7, .int (iI (i)))]) (by first | rfl | simp [cat_rf, cat_i, cat_l, cat_r]) ?_
            refine j_iload X dX3_countAhead_62 (q := 64) rfl 0 rfl ?_
            refine j_iload_n X dX3_countAhead_64 (q := 65) rfl 4 rfl ?_
            refine j_icmp_lt X (tgt := 86) dX3_countAhead_65 (by decide) (q := 68) rfl (by omega) (by omega) (fun c_65 => ?_) (fun c_65 => ?_)
            · skip
              refine j_iinc X dX3_countAhead_86 5 rfl (by decide) (q := 89) rfl (lv' := [(4, .int (iI (acc + 1))), (9, .int (iI (due S i))), (8, va_rf (pt (ad 1) (i))), (0, .ref (ad 0 0)), (1, va_rf (pt (ad 1) (u))), (3, .int (iI (due S u))), (5, .ref (ad 0 1)), (6, .int (iI ((12 : Nat)))), (7, .int (iI (i)))]) (by first | rfl | simp [cat_rf, cat_i, cat_l, cat_r]) ?_
              refine j_iinc X dX3_countAhead_89 8 rfl (by decide) (q := 92) rfl (lv' := [(7, .int (iI (i + 1))), (4, .int (iI (acc + 1))), (9, .int (iI (due S i))), (8, va_rf (pt (ad 1) (i))), (0, .ref (ad 0 0)), (1, va_rf (pt (ad 1) (u))), (3, .int (iI (due S u))), (5, .ref (ad 0 1)), (6, .int (iI ((12 : Nat))))]) (by first | rfl | simp [cat_rf, cat_i, cat_l, cat_r]) ?_
              refine j_goto X (tgt := 23) dX3_countAhead_92 (by decide) ?_
              exact j_lv (ih ((12 - (i + 1)).toNat) (by omega) (i + 1) _ (by omega) (by omega) rfl (by rw [sm_s hi.1, ahc, tf_t (by omega)]; omega)) [4, 5, 6, 1, 7, 8, 0] rfl
            · skip
              refine j_iload X dX3_countAhead_68 (q := 70) rfl 0 rfl ?_
              refine j_iload_n X dX3_countAhead_70 (q := 71) rfl 4 rfl ?_
              refine j_icmp_ne X (tgt := 89) dX3_countAhead_71 (by decide) (q := 74) rfl (by omega) (by omega) (fun c_71 => ?_) (fun c_71 => ?_)
              · skip
                refine j_iinc X dX3_countAhead_89 8 rfl (by decide) (q := 92) rfl (lv' := [(7, .int (iI (i + 1))), (9, .int (iI (due S i))), (8, va_rf (pt (ad 1) (i))), (0, .ref (ad 0 0)), (1, va_rf (pt (ad 1) (u))), (3, .int (iI (due S u))), (4, .int (iI (acc))), (5, .ref (ad 0 1)), (6, .int (iI ((12 : Nat))))]) (by first | rfl | simp [cat_rf, cat_i, cat_l, cat_r]) ?_
                refine j_goto X (tgt := 23) dX3_countAhead_92 (by decide) ?_
                exact j_lv (ih ((12 - (i + 1)).toNat) (by omega) (i + 1) _ (by omega) (by omega) rfl (by rw [sm_s hi.1, ahc, tf_f (by omega)]; omega)) [3, 4, 5, 6, 7, 8, 0] rfl
              · skip
                refine j_aloadq X dX3_countAhead_74 (q := 76) rfl 1 rfl ?_
                refine j_getp X (v := .int (iI (S 10 i))) fl_X3_77 hi.1 (hC.ins hi.1 hin) rfl dX3_countAhead_76 (q := 79) rfl ?_
                refine j_aloadq_n X dX3_countAhead_79 (q := 80) rfl 3 rfl ?_
                refine j_getp X (v := .int (iI (S 10 u))) fl_X3_77 hu.1 (hC.ins hu.1 hu.2) rfl dX3_countAhead_80 (q := 83) rfl ?_
                refine j_icmp_ge X (tgt := 89) dX3_countAhead_83 (by decide) (q := 86) rfl (by omega) (by omega) (fun c_83 => ?_) (fun c_83 => ?_)
                · skip
                  refine j_iinc X dX3_countAhead_89 8 rfl (by decide) (q := 92) rfl (lv' := [(7, .int (iI (i + 1))), (9, .int (iI (due S i))), (8, va_rf (pt (ad 1) (i))), (0, .ref (ad 0 0)), (1, va_rf (pt (ad 1) (u))), (3, .int (iI (due S u))), (4, .int (iI (acc))), (5, .ref (ad 0 1)), (6, .int (iI ((12 : Nat))))]) (by first | rfl | simp [cat_rf, cat_i, cat_l, cat_r]) ?_
                  refine j_goto X (tgt := 23) dX3_countAhead_92 (by decide) ?_
                  exact j_lv (ih ((12 - (i + 1)).toNat) (by omega) (i + 1) _ (by omega) (by omega) rfl (by rw [sm_s hi.1, ahc, tf_f (by omega)]; omega)) [3, 4, 5, 6, 7, 8, 0] rfl
                · skip
                  refine j_iinc X dX3_countAhead_86 5 rfl (by decide) (q := 89) rfl (lv' := [(4, .int (iI (acc + 1))), (9, .int (iI (due S i))), (8, va_rf (pt (ad 1) (i))), (0, .ref (ad 0 0)), (1, va_rf (pt (ad 1) (u))), (3, .int (iI (due S u))), (5, .ref (ad 0 1)), (6, .int (iI ((12 : Nat)))), (7, .int (iI (i)))]) (by first | rfl | simp [cat_rf, cat_i, cat_l, cat_r]) ?_
                  refine j_iinc X dX3_countAhead_89 8 rfl (by decide) (q := 92) rfl (lv' := [(7, .int (iI (i + 1))), (4, .int (iI (acc + 1))), (9, .int (iI (due S i))), (8, va_rf (pt (ad 1) (i))), (0, .ref (ad 0 0)), (1, va_rf (pt (ad 1) (u))), (3, .int (iI (due S u))), (5, .ref (ad 0 1)), (6, .int (iI ((12 : Nat))))]) (by first | rfl | simp [cat_rf, cat_i, cat_l, cat_r]) ?_
                  refine j_goto X (tgt := 23) dX3_countAhead_92 (by decide) ?_
                  exact j_lv (ih ((12 - (i + 1)).toNat) (by omega) (i + 1) _ (by omega) (by omega) rfl (by rw [sm_s hi.1, ahc, tf_t (by omega)]; omega)) [4, 5, 6, 1, 7, 8, 0] rfl
  exact j_lv (loop _ 0 0 (by decide) (by decide) rfl rfl) [5, 6, 4, 3, 2, 1, 0] rfl

set_option maxRecDepth 100000 in
set_option maxHeartbeats 4000000 in
theorem c_X3_benchDay {l : Launch} (hlt : l.stackTraces = false) {D : va_G} {ca : Nat → ClassId} {base : Nat} {ad : Nat → Int → Nat} {n nc nm : Int} {S : St} {w : Wd} (hC : CW base ca ad n nc nm S w) (hI : IC n nc nm S) (z : Int) (hz : -2147483648 ≤ z ∧ z ≤ 2147483647) (each : Int) (heach : -2147483648 ≤ each ∧ each ≤ 2147483647) : CT l D ca base yX3_benchDay cX3_benchDay 4 (some .int) 2 2 12 [.ref (ad 0 0), .int (iI (z)), .int (iI (each))] w (fun v w' => ((0 ≤ z ∧ z < n) ∧ (1 ≤ each ∧ each ≤ 12)) ∧ v = some (.int (iI (if S 15 z < 0 then -1 else S 7 0 + (ahd S z).tdiv each))) ∧ w = w') (fun E w' => ((¬ (0 ≤ z ∧ z < n) ∧ E = nIO) ∨ ((0 ≤ z ∧ z < n) ∧ ¬ (1 ≤ each ∧ each ≤ 12) ∧ E = nIA)) ∧ w = w') := by
  obtain ⟨hn, hnc, hnm, e3, e4, e5, h6, h7, h8⟩ := hI.top
  refine CT.mk hlt (by decide +kernel) (by first | exact Nat.le_of_ble_eq_true rfl | simp [lg_sl, cat_rf, cat_i, cat_l, cat_r]) ?_
  intro p e s m args below meth c X htab
  rw [show lv_args 0 [.ref (ad 0 0), .int (iI (z)), .int (iI (each))] = [(0, .ref (ad 0 0)), (1, .int (iI (z))), (2, .int (iI (each)))] from by first | rfl | simp [lv_args, cat_rf, cat_i, cat_l, cat_r]]
  refine j_aload_n X dX3_benchDay_0 (q := 1) rfl 0 rfl ?_
  refine j_iload_n X dX3_benchDay_1 (q := 2) rfl 1 rfl ?_
  refine j_callV X (As := [.int (iI (z))]) (st := []) hC.cal rfl (c_X3_known hlt hC hI z hz) sv_X3_54 (by decide) rfl (by first | decide | exact Nat.le_of_ble_eq_true rfl | simp [cat_rf, cat_i, cat_l, cat_r]) dX3_benchDay_2 (by decide) (fun E w' h => jx_out X htab ⟨Or.inl ⟨h.1, h.2.1⟩, h.2.2⟩ (by decide) (by decide)) ?_
  rintro v9 w9 ⟨k1, rfl, rfl⟩
  refine j_st (st := [va_rf (pt (ad 1) (z))]) ?_
  obtain ⟨f_9_0, f_9_1, f_9_2, f_9_3, f_9_4, f_9_5, f_9_6, f_9_7, f_9_8⟩ := hI.ins k1.1 k1.2
  refine j_astoreq_n X (i := 3) dX3_benchDay_5 rfl (by decide) (q := 6) rfl (lv' := [(3, va_rf (pt (ad 1) (z))), (0, .ref (ad 0 0)), (1, .int (iI (z))), (2, .int (iI (each)))]) (by first | rfl | simp [cat_rf, cat_i, cat_l, cat_r]) ?_
  refine j_iload_n X dX3_benchDay_6 (q := 7) rfl 3 rfl ?_
  refine j_iconst X (a := 1) dX3_benchDay_7 (q := 8) rfl ?_
  refine j_icmp_lt X (tgt := 17) dX3_benchDay_8 (by decide) (q := 11) rfl (by omega) (by omega) (fun c_8 => ?_) (fun c_8 => ?_)
  · skip
    exact j_throw X htab ts_31_247 dX3_benchDay_17 dX3_benchDay_20 dX3_benchDay_21 dX3_benchDay_23 dX3_benchDay_26 (by decide) (by decide) (by decide) (by decide) (⟨Or.inr ⟨k1, by omega, rfl⟩, rfl⟩) (by decide) (by decide)
  · skip
    refine j_iload_n X dX3_benchDay_11 (q := 12) rfl 3 rfl ?_
    refine j_bipush X (a := 12) (by decide +kernel) dX3_benchDay_12 (q := 14) rfl ?_
    refine j_icmp_le X (tgt := 27) dX3_benchDay_14 (by decide) (q := 17) rfl (by omega) (by omega) (fun c_14 => ?_) (fun c_14 => ?_)
    · skip
      refine j_aloadq_n X dX3_benchDay_27 (q := 28) rfl 0 rfl ?_
      refine j_getp X (v := va_rf (pt (ad 2) (S 15 z))) fl_X3_95 k1.1 (hC.ins k1.1 k1.2) rfl dX3_benchDay_28 (q := 31) rfl ?_
      refine j_ifnonnullp X (tgt := 38) dX3_benchDay_31 (by decide) (q := 34) rfl (fun c_31 => ?_) (fun c_31 => ?_)
      · skip
        obtain ⟨f_10_0, f_10_1, f_10_2, f_10_3, f_10_4, f_10_5, f_10_6, f_10_7, f_10_8, f_10_9⟩ := hI.kal c_31 (by omega)
        refine j_aload_n X dX3_benchDay_38 (q := 39) rfl 1 rfl ?_
        refine j_get X (v := .int (iI (S 7 0))) fl_X3_69 hC.cal rfl dX3_benchDay_39 (q := 42) rfl ?_
        refine j_aload_n X dX3_benchDay_42 (q := 43) rfl 1 rfl ?_
        refine j_aloadq_n X dX3_benchDay_43 (q := 44) rfl 0 rfl ?_
        refine j_aloadq_n X dX3_benchDay_44 (q := 45) rfl 0 rfl ?_
        refine j_getp X (v := va_rf (pt (ad 2) (S 15 z))) fl_X3_95 k1.1 (hC.ins k1.1 k1.2) rfl dX3_benchDay_45 (q := 48) rfl ?_
        refine j_callV X (As := [va_rf (pt (ad 1) (z)), va_rf (pt (ad 2) (S 15 z))]) (st := [.int (iI (S 7 0))]) hC.cal rfl (c_X3_countAhead hlt hC hI z k1 c_31) sv_X3_249 (by decide) rfl (by first | decide | exact Nat.le_of_ble_eq_true rfl | simp [cat_rf, cat_i, cat_l, cat_r]) dX3_benchDay_48 (by decide) (fun _ _ h => h.elim) ?_
        rintro v9 w9 ⟨rfl, rfl⟩
        refine j_st (st := [.int (iI (ahd S z)), .int (iI (S 7 0))]) ?_
        have hb9 := ahd_b S z
        refine j_iload_n X dX3_benchDay_51 (q := 52) rfl 3 rfl ?_
        refine j_idiv X (by omega) (by omega) dX3_benchDay_52 (q := 53) rfl ?_
        refine j_iadd X dX3_benchDay_53 (q := 54) rfl ?_
        exact j_iret X rfl dX3_benchDay_54 (⟨⟨k1, by omega⟩, by rw [if_neg (by omega)], rfl⟩) (by decide) (by decide)
      · skip
        refine j_iconst X (a := -1) dX3_benchDay_34 (q := 35) rfl ?_
        refine j_goto X (tgt := 54) dX3_benchDay_35 (by decide) ?_
        exact j_iret X rfl dX3_benchDay_54 (⟨⟨k1, by omega⟩, by rw [if_pos c_31], rfl⟩) (by decide) (by decide)
    · skip
      exact j_throw X htab ts_31_247 dX3_benchDay_17 dX3_benchDay_20 dX3_benchDay_21 dX3_benchDay_23 dX3_benchDay_26 (by decide) (by decide) (by decide) (by decide) (⟨Or.inr ⟨k1, by omega, rfl⟩, rfl⟩) (by decide) (by decide)

set_option maxRecDepth 100000 in
set_option maxHeartbeats 4000000 in
theorem c_X3_late {l : Launch} (hlt : l.stackTraces = false) {D : va_G} {ca : Nat → ClassId} {base : Nat} {ad : Nat → Int → Nat} {n nc nm : Int} {S : St} {w : Wd} (hC : CW base ca ad n nc nm S w) (hI : IC n nc nm S) (z : Int) (hz : -2147483648 ≤ z ∧ z ≤ 2147483647) : CT l D ca base yX3_late cX3_late 7 (some .int) 2 1 6 [.ref (ad 0 0), .int (iI (z))] w (fun v w' => (1 ≤ z ∧ z ≤ 12) ∧ v = some (.int (iI (sm (latc S z) 12))) ∧ w = w') (fun E w' => ¬ (1 ≤ z ∧ z ≤ 12) ∧ E = nIA ∧ w = w') := by
  obtain ⟨hn, hnc, hnm, e3, e4, e5, h6, h7, h8⟩ := hI.top
  refine CT.mk hlt (by decide +kernel) (by first | exact Nat.le_of_ble_eq_true rfl | simp [lg_sl, cat_rf, cat_i, cat_l, cat_r]) ?_
  intro p e s m args below meth c X htab
  rw [show lv_args 0 [.ref (ad 0 0), .int (iI (z))] = [(0, .ref (ad 0 0)), (1, .int (iI (z)))] from by first | rfl | simp [lv_args, cat_rf, cat_i, cat_l, cat_r]]
  refine j_iload_n X dX3_late_0 (q := 1) rfl 1 rfl ?_
  refine j_iconst X (a := 1) dX3_late_1 (q := 2) rfl ?_
  refine j_icmp_lt X (tgt := 11) dX3_late_2 (by decide) (q := 5) rfl (by omega) (by omega) (fun c_2 => ?_) (fun c_2 => ?_)
  · skip
    exact j_throw X htab ts_31_247 dX3_late_11 dX3_late_14 dX3_late_15 dX3_late_17 dX3_late_20 (by decide) (by decide) (by decide) (by decide) (⟨by omega, rfl, rfl⟩) (by decide) (by decide)
  · skip
    refine j_iload_n X dX3_late_5 (q := 6) rfl 1 rfl ?_
    refine j_bipush X (a := 12) (by decide +kernel) dX3_late_6 (q := 8) rfl ?_
    refine j_icmp_le X (tgt := 21) dX3_late_8 (by decide) (q := 11) rfl (by omega) (by omega) (fun c_8 => ?_) (fun c_8 => ?_)
    · skip
      refine j_iconst X (a := 0) dX3_late_21 (q := 22) rfl ?_
      refine j_istore_n X (i := 2) dX3_late_22 rfl (by decide) (q := 23) rfl (lv' := [(2, .int (iI (0))), (0, .ref (ad 0 0)), (1, .int (iI (z)))]) (by first | rfl | simp [cat_rf, cat_i, cat_l, cat_r]) ?_
      refine j_aload_n X dX3_late_23 (q := 24) rfl 1 rfl ?_
      refine j_get X (v := .ref (ad 0 1)) fl_X3_11 hC.cal rfl dX3_late_24 (q := 27) rfl ?_
      refine j_astore_n X (i := 3) dX3_late_27 rfl (by decide) (q := 28) rfl (lv' := [(3, .ref (ad 0 1)), (2, .int (iI (0))), (0, .ref (ad 0 0)), (1, .int (iI (z)))]) (by first | rfl | simp [cat_rf, cat_i, cat_l, cat_r]) ?_
      refine j_aload_n X dX3_late_28 (q := 29) rfl 0 rfl ?_
      refine j_alen X (t := 2) (N := 12) rfl hC.told rfl dX3_late_29 (q := 30) rfl ?_
      refine j_istore X (i := 4) dX3_late_30 (by decide) (q := 32) rfl (lv' := [(4, .int (iI ((12 : Nat)))), (3, .ref (ad 0 1)), (2, .int (iI (0))), (0, .ref (ad 0 0)), (1, .int (iI (z)))]) (by first | rfl | simp [cat_rf, cat_i, cat_l, cat_r]) ?_
      refine j_iconst X (a := 0) dX3_late_32 (q := 33) rfl ?_
      refine j_istore X (i := 5) dX3_late_33 (by decide) (q := 35) rfl (lv' := [(5, .int (iI (0))), (4, .int (iI ((12 : Nat)))), (3, .ref (ad 0 1)), (2, .int (iI (0))), (0, .ref (ad 0 0)), (1, .int (iI (z)))]) (by first | rfl | simp [cat_rf, cat_i, cat_l, cat_r]) ?_
      have hz1 : 1 ≤ z ∧ z ≤ 12 := by omega
      have loop : ∀ (kk : Nat) (i acc : Int), (0 ≤ i ∧ i ≤ 12) → (0 ≤ acc ∧ acc ≤ i) → (12 - i).toNat = kk → acc = sm (latc S z) i.toNat → J p l e (Rm 2 1 6) s m args below meth c (vx_MQ below (Qn D base (fun v w' => (1 ≤ z ∧ z ≤ 12) ∧ v = some (.int (iI (sm (latc S z) 12))) ∧ w = w')) (Xn D base (fun E w' => ¬ (1 ≤ z ∧ z ≤ 12) ∧ E = nIA ∧ w = w')) args s 1 6 (fun q => base ≤ q)) D base 7 0 0 35 [(0, .ref (ad 0 0)), (1, .int (iI (z))), (2, .int (iI (acc))), (3, .ref (ad 0 1)), (4, .int (iI ((12 : Nat)))), (5, .int (iI (i)))] [] w := by
        intro kk
        induction kk using Nat.strongRecOn with
        | ind kk ih =>
          intro i acc hi hac hkk hv
          refine j_iload X dX3_late_35 (q := 37) rfl 5 rfl ?_
          refine j_iload X dX3_late_37 (q := 39) rfl 4 rfl ?_
          refine j_icmp_ge X (tgt := 101) dX3_late_39 (by decide) (q := 42) rfl (by omega) (by omega) (fun c_39 => ?_) (fun c_39 => ?_)
          · skip
            refine j_iload_n X dX3_late_101 (q := 102) rfl 2 rfl ?_
            exact j_iret X rfl dX3_late_102 (⟨hz1, by rw [hv, show i = 12 by omega]; rfl, rfl⟩) (by decide) (by decide)
          · skip
            refine j_aload_n X dX3_late_42 (q := 43) rfl 3 rfl ?_
            refine j_iload X dX3_late_43 (q := 45) rfl 5 rfl ?_
            refine j_aald X (t := 2) (i := i) rfl hC.told (by omega) (by decide) dX3_late_45 (q := 46) rfl ?_
            rw [rw_pt (by omega)]
            refine j_astoreq X (i := 6) dX3_late_46 (by decide) (q := 48) rfl (lv' := [(6, va_rf (pt (ad 1) (if i < S 3 0 then i else -1))), (0, .ref (ad 0 0)), (1, .int (iI (z))), (2, .int (iI (acc))), (3, .ref (ad 0 1)), (4, .int (iI ((12 : Nat)))), (5, .int (iI (i)))]) (by first | rfl | simp [cat_rf, cat_i, cat_l, cat_r]) ?_
            refine j_aloadq X dX3_late_48 (q := 50) rfl 0 rfl ?_
            refine j_ifnullp X (tgt := 95) dX3_late_50 (by decide) (q := 53) rfl (fun c_50 => ?_) (fun c_50 => ?_)
            · skip
              refine j_iinc X dX3_late_95 6 rfl (by decide) (q := 98) rfl (lv' := [(5, .int (iI (i + 1))), (6, va_rf (pt (ad 1) (if i < S 3 0 then i else -1))), (0, .ref (ad 0 0)), (1, .int (iI (z))), (2, .int (iI (acc))), (3, .ref (ad 0 1)), (4, .int (iI ((12 : Nat))))]) (by first | rfl | simp [cat_rf, cat_i, cat_l, cat_r]) ?_
              refine j_goto X (tgt := 35) dX3_late_98 (by decide) ?_
              exact j_lv (ih ((12 - (i + 1)).toNat) (by omega) (i + 1) _ (by omega) (by omega) rfl (by rw [sm_s hi.1, latc, tf_f (by split at c_50 <;> omega)]; omega)) [2, 3, 4, 5, 6, 0] rfl
            · skip
              have hin : i < n := by split at c_50 <;> omega
              rw [if_pos (by omega)]
              obtain ⟨f_11_0, f_11_1, f_11_2, f_11_3, f_11_4, f_11_5, f_11_6, f_11_7, f_11_8⟩ := hI.ins hi.1 hin
              refine j_aloadq X dX3_late_53 (q := 55) rfl 0 rfl ?_
              refine j_getp X (v := va_rf (pt (ad 2) (S 15 i))) fl_X3_95 hi.1 (hC.ins hi.1 hin) rfl dX3_late_55 (q := 58) rfl ?_
              refine j_ifnullp X (tgt := 95) dX3_late_58 (by decide) (q := 61) rfl (fun c_58 => ?_) (fun c_58 => ?_)
              · skip
                refine j_iinc X dX3_late_95 6 rfl (by decide) (q := 98) rfl (lv' := [(5, .int (iI (i + 1))), (6, va_rf (pt (ad 1) (i))), (0, .ref (ad 0 0)), (1, .int (iI (z))), (2, .int (iI (acc))), (3, .ref (ad 0 1)), (4, .int (iI ((12 : Nat))))]) (by first | rfl | simp [cat_rf, cat_i, cat_l, cat_r]) ?_
                refine j_goto X (tgt := 35) dX3_late_98 (by decide) ?_
                exact j_lv (ih ((12 - (i + 1)).toNat) (by omega) (i + 1) _ (by omega) (by omega) rfl (by rw [sm_s hi.1, latc, tf_f (by omega)]; omega)) [2, 3, 4, 5, 6, 0] rfl
              · skip
                refine j_aload_n X dX3_late_61 (q := 62) rfl 1 rfl ?_
                refine j_get X (v := .int (iI (S 7 0))) fl_X3_69 hC.cal rfl dX3_late_62 (q := 65) rfl ?_
                refine j_aload_n X dX3_late_65 (q := 66) rfl 1 rfl ?_
                refine j_aloadq X dX3_late_66 (q := 68) rfl 0 rfl ?_
                refine j_aloadq X dX3_late_68 (q := 70) rfl 0 rfl ?_
                refine j_getp X (v := va_rf (pt (ad 2) (S 15 i))) fl_X3_95 hi.1 (hC.ins hi.1 hin) rfl dX3_late_70 (q := 73) rfl ?_
                refine j_callV X (As := [va_rf (pt (ad 1) (i)), va_rf (pt (ad 2) (S 15 i))]) (st := [.int (iI (S 7 0))]) hC.cal rfl (c_X3_countAhead hlt hC hI i ⟨hi.1, hin⟩ c_58) sv_X3_249 (by decide) rfl (by first | decide | exact Nat.le_of_ble_eq_true rfl | simp [cat_rf, cat_i, cat_l, cat_r]) dX3_late_73 (by decide) (fun _ _ h => h.elim) ?_
                rintro v9 w9 ⟨rfl, rfl⟩
                refine j_st (st := [.int (iI (ahd S i)), .int (iI (S 7 0))]) ?_
                have hb9 := ahd_b S i
                have hb8 := td_r hb9 hz1.1
                refine j_iload_n X dX3_late_76 (q := 77) rfl 2 rfl ?_
                refine j_idiv X (by omega) (by omega) dX3_late_77 (q := 78) rfl ?_
                refine j_iadd X dX3_late_78 (q := 79) rfl ?_
                refine j_aloadq X dX3_late_79 (q := 81) rfl 0 rfl ?_
                refine j_aloadq X dX3_late_81 (q := 83) rfl 0 rfl ?_
                refine j_getp X (v := va_rf (pt (ad 2) (S 15 i))) fl_X3_95 hi.1 (hC.ins hi.1 hin) rfl dX3_late_83 (q := 86) rfl ?_
                refine j_callS X (As := [va_rf (pt (ad 1) (i)), va_rf (pt (ad 2) (S 15 i))]) (st := [.int (iI ((S 7 0) + (Int.tdiv (ahd S i) (z))))])  (c_X3_dueDay hlt hC hI i (S 15 i) ⟨hi.1, hin⟩ ⟨c_58, by omega⟩) ss_X3_182 (by decide) rfl (by first | decide | exact Nat.le_of_ble_eq_true rfl | simp [cat_rf, cat_i, cat_l, cat_r]) dX3_late_86 (by decide) (fun _ _ h => h.elim) ?_
                rintro v9 w9 ⟨rfl, rfl⟩
                refine j_st (st := [.int (iI (due S i)), .int (iI ((S 7 0) + (Int.tdiv (ahd S i) (z))))]) ?_
                have hdi : 0 ≤ due S i ∧ due S i ≤ 600000 := by
                  obtain ⟨a1, a2, -⟩ := hI.kal c_58 (by omega)
                  unfold due; omega
                refine j_icmp_le X (tgt := 95) dX3_late_89 (by decide) (q := 92) rfl (by omega) (by omega) (fun c_89 => ?_) (fun c_89 => ?_)
                · skip
                  refine j_iinc X dX3_late_95 6 rfl (by decide) (q := 98) rfl (lv' := [(5, .int (iI (i + 1))), (6, va_rf (pt (ad 1) (i))), (0, .ref (ad 0 0)), (1, .int (iI (z))), (2, .int (iI (acc))), (3, .ref (ad 0 1)), (4, .int (iI ((12 : Nat))))]) (by first | rfl | simp [cat_rf, cat_i, cat_l, cat_r]) ?_
                  refine j_goto X (tgt := 35) dX3_late_98 (by decide) ?_
                  exact j_lv (ih ((12 - (i + 1)).toNat) (by omega) (i + 1) _ (by omega) (by omega) rfl (by rw [sm_s hi.1, latc, tf_f (by omega)]; omega)) [2, 3, 4, 5, 6, 0] rfl
                · skip
                  refine j_iinc X dX3_late_92 3 rfl (by decide) (q := 95) rfl (lv' := [(2, .int (iI (acc + 1))), (6, va_rf (pt (ad 1) (i))), (0, .ref (ad 0 0)), (1, .int (iI (z))), (3, .ref (ad 0 1)), (4, .int (iI ((12 : Nat)))), (5, .int (iI (i)))]) (by first | rfl | simp [cat_rf, cat_i, cat_l, cat_r]) ?_
                  refine j_iinc X dX3_late_95 6 rfl (by decide) (q := 98) rfl (lv' := [(5, .int (iI (i + 1))), (2, .int (iI (acc + 1))), (6, va_rf (pt (ad 1) (i))), (0, .ref (ad 0 0)), (1, .int (iI (z))), (3, .ref (ad 0 1)), (4, .int (iI ((12 : Nat))))]) (by first | rfl | simp [cat_rf, cat_i, cat_l, cat_r]) ?_
                  refine j_goto X (tgt := 35) dX3_late_98 (by decide) ?_
                  exact j_lv (ih ((12 - (i + 1)).toNat) (by omega) (i + 1) _ (by omega) (by omega) rfl (by rw [sm_s hi.1, latc, tf_t (by omega)]; omega)) [3, 4, 1, 5, 6, 0] rfl
      exact j_lv (loop _ 0 0 (by decide) (by decide) rfl rfl) [4, 5, 3, 2, 1, 0] rfl
    · skip
      exact j_throw X htab ts_31_247 dX3_late_11 dX3_late_14 dX3_late_15 dX3_late_17 dX3_late_20 (by decide) (by decide) (by decide) (by decide) (⟨by omega, rfl, rfl⟩) (by decide) (by decide)
