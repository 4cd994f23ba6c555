/-- what holds between the calls of the script -/
def LI (base : Nat) (ca : Nat → ClassId) (ax ay o oD : Nat) (c : Int) (k n : Nat) (w : Wd) : Prop := ∃ (ni nc nm : Int) (S T : St) (ad : Nat → Int → Nat) (am : Nat → Nat) (th : Int) (f : Nat → Int64) (g : Nat → UInt64), Sim c ni nc nm S T ∧ CW base ca ad ni nc nm S w ∧ MW base ca am th T w ∧ (w o = some (eLong ca f) ∧ w oD = some (eDbl ca g)) ∧ ad 0 0 = ax ∧ am 0 = ay ∧ (k : Int) ≤ 100 + 10 * c ∧ (n : Int) ≤ 4000 + 100 * c
def e_no : va_E → Nat
  | .inl (_, _, .inr (.inl _)) => 1
  | _ => 0
theorem e_DL {ca : Nat → ClassId} {f : Nat → Int64} {g : Nat → UInt64} : eDbl ca g ≠ eLong ca f := fun z => absurd (show (0 : Nat) = 1 from congrArg e_no z) (by decide)
theorem i32 (x : Int32) : ∃ z : Int, x = iI z ∧ (-2147483648 ≤ z ∧ z ≤ 2147483647) := ⟨x.toInt, (Int32.ofInt_toInt x).symm, by have := Int32.le_toInt x; have := Int32.toInt_lt x; omega⟩
theorem ak_0 {n z : Int} (h : akC n z = 0) : 0 ≤ z ∧ z < n := by
  unfold akC at h
  split at h
  · assumption
  · cases h
set_option maxRecDepth 100000 in
set_option maxHeartbeats 4000000 in
theorem c_X4_thrown0 {l : Launch} (hlt : l.stackTraces = false) {D : va_G} {ca : Nat → ClassId} {base : Nat} {am : Nat → Nat} {th : Int} {T : St} {w : Wd} (hM : MW base ca am th T w) : CT l D ca base yX4_thrown cX4_thrown 1 (some .int) 0 0 0 [.ref (am 0)] w (fun v w' => v = some (.int (iI (th))) ∧ w = w') (fun _ _ => False) := by
  refine CT.mk hlt (by decide +kernel) (by first | exact Nat.le_of_ble_eq_true rfl | simp [lg_sl, cat_rf, cat_i, cat_l, cat_r]) ?_
  intro p e s m args below meth c X htab
  rw [show lv_args 0 [.ref (am 0)] = [(0, .ref (am 0))] from by first | rfl | simp [lv_args, cat_rf, cat_i, cat_l, cat_r]]
  refine j_aload_n X dX4_thrown_0 (q := 1) rfl 0 rfl ?_
  refine j_get X (v := .int (iI (th))) fl_X4_62 hM.obj rfl dX4_thrown_1 (q := 4) rfl ?_
  exact j_iret X rfl dX4_thrown_4 (⟨rfl, rfl⟩) (by decide) (by decide)

section LAW
variable {p : Program} {l : Launch} {e : Env} {s : State} {m : MethodId} {args : Array Value} {below : List Frame} {meth : Method} {cd : Code} {Q : State → Prop} {D : va_G} {ca : Nat → ClassId} {base k n : Nat} {w : Wd} {mn : String}
set_option maxRecDepth 100000 in
set_option maxHeartbeats 4000000 in
theorem case_3 (X : Cx p l s m args meth cd ⟨RL, mn, ""⟩ code 9 ret D ca base) (hlt : l.stackTraces = false) {b L : Nat} {xs : Nat → Int32} (hX : va_X b L xs s s.heap) (hbl : b < s.heap.size) (hbA : ¬ base ≤ b) (hL : L ≤ 2560) {i c : Int} (hi : 0 ≤ i ∧ i + 5 ≤ L) (hc : 0 ≤ c ∧ c ≤ 511) {o oD ax ay : Nat} (hbo : base ≤ o) (hbD : base ≤ oD) (hLI : LI base ca ax ay o oD c k n w) (nx : ∀ (k' n' : Nat) (w' : Wd), LI base ca ax ay o oD (c + 1) k' n' w' → J p l e room_1 s m args below meth cd Q D base 9 k' n' 1475 [(5, .int (iI (i))), (4, .ref (oD)), (3, .ref (o)), (2, .ref (ay)), (1, .ref (ax)), (0, .ref (b))] [] w') : J p l e room_1 s m args below meth cd Q D base 9 k n 376 [(5, .int (iI (i))), (4, .ref (oD)), (3, .ref (o)), (2, .ref (ay)), (1, .ref (ax)), (0, .ref (b))] [] w := by
  obtain ⟨ni, nc, nm, S, T, ad, am, th, f, g, hS, hC, hM, ⟨ho, hoD⟩, rfl, rfl, hk, hn⟩ := hLI
  have hMI := hS.MI hc.2
  have hIC := hS.1
  obtain ⟨hn0, hnc0, hnm0, e3, e4, e5, -, e7, e8⟩ := hIC.top
  refine j_aload_n X dL_law_376 (q := 377) rfl 4 rfl ?_
  refine j_callV X (As := []) (st := []) hC.cal rfl (c_X3_today hlt hC hIC) sv_L_104 (by decide) rfl (by first | decide | exact Nat.le_of_ble_eq_true rfl) dL_law_377 ⟨by show _ ≤ 601024; omega, by show _ ≤ 7293034; omega⟩ (fun _ _ h => h.elim) ?_
  rintro v9 w9 ⟨rfl, rfl⟩
  refine j_st (st := [.int (iI (S 7 0))]) ?_
  refine j_aload_n X dL_law_380 (q := 381) rfl 3 rfl ?_
  refine j_callV X (As := []) (st := [.int (iI (S 7 0))]) hM.obj rfl (c_X4_today hlt hM hMI) sv_L_107 (by decide) rfl (by first | decide | exact Nat.le_of_ble_eq_true rfl) dL_law_381 ⟨by show _ ≤ 601024; omega, by show _ ≤ 7293034; omega⟩ (fun _ _ h => h.elim) ?_
  rintro v9 w8 ⟨rfl, hM8, hF8⟩
  refine j_st (st := [.int (iI (T 1 0)), .int (iI (S 7 0))]) ?_
  have hans : T 1 0 = S 7 0 := hS.top.2.1
  rw [hans]
  have hcr : -2147483648 ≤ S 7 0 ∧ S 7 0 ≤ 2147483647 := by omega
  have hC8 := hC.fr (c := 1) (by decide) hF8
  have ho8 := hF8 _ _ ho (by show (2 : Nat) ≠ 1; decide)
  have hoD8 := hF8 _ _ hoD (by show (2 : Nat) ≠ 1; decide)
  refine j_icmp_eq X (tgt := 1475) dL_law_384 (by decide) (q := 387) rfl (by omega) (by omega) (fun c_384 => ?_) (fun c_384 => ?_)
  · skip
    exact j_lv (nx _ _ _ ⟨ni, nc, nm, S, T, ad, am, _, f, g, hS.le (by omega) (by omega), hC8, hM8, ⟨ho8, hoD8⟩, rfl, rfl, by omega, by omega⟩) [0, 1, 2, 3, 4, 5] rfl
  · skip
    exact absurd rfl c_384

set_option maxRecDepth 100000 in
set_option maxHeartbeats 4000000 in
theorem case_4 (X : Cx p l s m args meth cd ⟨RL, mn, ""⟩ code 9 ret D ca base) (hlt : l.stackTraces = false) {b L : Nat} {xs : Nat → Int32} (hX : va_X b L xs s s.heap) (hbl : b < s.heap.size) (hbA : ¬ base ≤ b) (hL : L ≤ 2560) {i c : Int} (hi : 0 ≤ i ∧ i + 5 ≤ L) (hc : 0 ≤ c ∧ c ≤ 511) {o oD ax ay : Nat} (hbo : base ≤ o) (hbD : base ≤ oD) (hLI : LI base ca ax ay o oD c k n w) (nx : ∀ (k' n' : Nat) (w' : Wd), LI base ca ax ay o oD (c + 1) k' n' w' → J p l e room_1 s m args below meth cd Q D base 9 k' n' 1475 [(5, .int (iI (i))), (4, .ref (oD)), (3, .ref (o)), (2, .ref (ay)), (1, .ref (ax)), (0, .ref (b))] [] w') : J p l e room_1 s m args below meth cd Q D base 9 k n 389 [(5, .int (iI (i))), (4, .ref (oD)), (3, .ref (o)), (2, .ref (ay)), (1, .ref (ax)), (0, .ref (b))] [] w := by
  obtain ⟨ni, nc, nm, S, T, ad, am, th, f, g, hS, hC, hM, ⟨ho, hoD⟩, rfl, rfl, hk, hn⟩ := hLI
  have hMI := hS.MI hc.2
  have hIC := hS.1
  obtain ⟨hn0, hnc0, hnm0, e3, e4, e5, -, e7, e8⟩ := hIC.top
  refine j_aload_n X dL_law_389 (q := 390) rfl 4 rfl ?_
  refine j_callV X (As := []) (st := []) hC.cal rfl (c_X3_instruments hlt hC hIC) sv_L_108 (by decide) rfl (by first | decide | exact Nat.le_of_ble_eq_true rfl) dL_law_390 ⟨by show _ ≤ 601024; omega, by show _ ≤ 7293034; omega⟩ (fun _ _ h => h.elim) ?_
  rintro v9 w9 ⟨rfl, rfl⟩
  refine j_st (st := [.int (iI (S 3 0))]) ?_
  refine j_aload_n X dL_law_393 (q := 394) rfl 3 rfl ?_
  refine j_callV X (As := []) (st := [.int (iI (S 3 0))]) hM.obj rfl (c_X4_instruments hlt hM hMI) sv_L_111 (by decide) rfl (by first | decide | exact Nat.le_of_ble_eq_true rfl) dL_law_394 ⟨by show _ ≤ 601024; omega, by show _ ≤ 7293034; omega⟩ (fun _ _ h => h.elim) ?_
  rintro v9 w8 ⟨rfl, hM8, hF8⟩
  refine j_st (st := [.int (iI (T 2 0)), .int (iI (S 3 0))]) ?_
  have hans : T 2 0 = S 3 0 := by rw [hS.top.2.2.1]; exact e3.symm
  rw [hans]
  have hcr : -2147483648 ≤ S 3 0 ∧ S 3 0 ≤ 2147483647 := by omega
  have hC8 := hC.fr (c := 1) (by decide) hF8
  have ho8 := hF8 _ _ ho (by show (2 : Nat) ≠ 1; decide)
  have hoD8 := hF8 _ _ hoD (by show (2 : Nat) ≠ 1; decide)
  refine j_icmp_eq X (tgt := 1475) dL_law_397 (by decide) (q := 400) rfl (by omega) (by omega) (fun c_397 => ?_) (fun c_397 => ?_)
  · skip
    exact j_lv (nx _ _ _ ⟨ni, nc, nm, S, T, ad, am, _, f, g, hS.le (by omega) (by omega), hC8, hM8, ⟨ho8, hoD8⟩, rfl, rfl, by omega, by omega⟩) [0, 1, 2, 3, 4, 5] rfl
  · skip
    exact absurd rfl c_397

set_option maxRecDepth 100000 in
set_option maxHeartbeats 4000000 in
theorem case_18 (X : Cx p l s m args meth cd ⟨RL, mn, ""⟩ code 9 ret D ca base) (hlt : l.stackTraces = false) {b L : Nat} {xs : Nat → Int32} (hX : va_X b L xs s s.heap) (hbl : b < s.heap.size) (hbA : ¬ base ≤ b) (hL : L ≤ 2560) {i c : Int} (hi : 0 ≤ i ∧ i + 5 ≤ L) (hc : 0 ≤ c ∧ c ≤ 511) {o oD ax ay : Nat} (hbo : base ≤ o) (hbD : base ≤ oD) (hLI : LI base ca ax ay o oD c k n w) (nx : ∀ (k' n' : Nat) (w' : Wd), LI base ca ax ay o oD (c + 1) k' n' w' → J p l e room_1 s m args below meth cd Q D base 9 k' n' 1475 [(5, .int (iI (i))), (4, .ref (oD)), (3, .ref (o)), (2, .ref (ay)), (1, .ref (ax)), (0, .ref (b))] [] w') : J p l e room_1 s m args below meth cd Q D base 9 k n 1193 [(5, .int (iI (i))), (4, .ref (oD)), (3, .ref (o)), (2, .ref (ay)), (1, .ref (ax)), (0, .ref (b))] [] w := by
  obtain ⟨ni, nc, nm, S, T, ad, am, th, f, g, hS, hC, hM, ⟨ho, hoD⟩, rfl, rfl, hk, hn⟩ := hLI
  have hMI := hS.MI hc.2
  have hIC := hS.1
  obtain ⟨hn0, hnc0, hnm0, e3, e4, e5, -, e7, e8⟩ := hIC.top
  refine j_aload_n X dL_law_1193 (q := 1194) rfl 4 rfl ?_
  refine j_callV X (As := []) (st := []) hC.cal rfl (c_X3_measurements hlt hC hIC) sv_L_153 (by decide) rfl (by first | decide | exact Nat.le_of_ble_eq_true rfl) dL_law_1194 ⟨by show _ ≤ 601024; omega, by show _ ≤ 7293034; omega⟩ (fun _ _ h => h.elim) ?_
  rintro v9 w9 ⟨rfl, rfl⟩
  refine j_st (st := [.int (iI (S 4 0))]) ?_
  refine j_aload_n X dL_law_1197 (q := 1198) rfl 3 rfl ?_
  refine j_callV X (As := []) (st := [.int (iI (S 4 0))]) hM.obj rfl (c_X4_measurements hlt hM hMI) sv_L_156 (by decide) rfl (by first | decide | exact Nat.le_of_ble_eq_true rfl) dL_law_1198 ⟨by show _ ≤ 601024; omega, by show _ ≤ 7293034; omega⟩ (fun _ _ h => h.elim) ?_
  rintro v9 w8 ⟨rfl, hM8, hF8⟩
  refine j_st (st := [.int (iI (T 18 0)), .int (iI (S 4 0))]) ?_
  have hans : T 18 0 = S 4 0 := by rw [hS.top.2.2.2.2.1]; exact e4.symm
  rw [hans]
  have hcr : -2147483648 ≤ S 4 0 ∧ S 4 0 ≤ 2147483647 := by omega
  have hC8 := hC.fr (c := 1) (by decide) hF8
  have ho8 := hF8 _ _ ho (by show (2 : Nat) ≠ 1; decide)
  have hoD8 := hF8 _ _ hoD (by show (2 : Nat) ≠ 1; decide)
  refine j_icmp_eq X (tgt := 1475) dL_law_1201 (by decide) (q := 1204) rfl (by omega) (by omega) (fun c_1201 => ?_) (fun c_1201 => ?_)
  · skip
    exact j_lv (nx _ _ _ ⟨ni, nc, nm, S, T, ad, am, _, f, g, hS.le (by omega) (by omega), hC8, hM8, ⟨ho8, hoD8⟩, rfl, rfl, by omega, by omega⟩) [0, 1, 2, 3, 4, 5] rfl
  · skip
    exact absurd rfl c_1201

set_option maxRecDepth 100000 in
set_option maxHeartbeats 4000000 in
theorem case_20 (X : Cx p l s m args meth cd ⟨RL, mn, ""⟩ code 9 ret D ca base) (hlt : l.stackTraces = false) {b L : Nat} {xs : Nat → Int32} (hX : va_X b L xs s s.heap) (hbl : b < s.heap.size) (hbA : ¬ base ≤ b) (hL : L ≤ 2560) {i c : Int} (hi : 0 ≤ i ∧ i + 5 ≤ L) (hc : 0 ≤ c ∧ c ≤ 511) {o oD ax ay : Nat} (hbo : base ≤ o) (hbD : base ≤ oD) (hLI : LI base ca ax ay o oD c k n w) (nx : ∀ (k' n' : Nat) (w' : Wd), LI base ca ax ay o oD (c + 1) k' n' w' → J p l e room_1 s m args below meth cd Q D base 9 k' n' 1475 [(5, .int (iI (i))), (4, .ref (oD)), (3, .ref (o)), (2, .ref (ay)), (1, .ref (ax)), (0, .ref (b))] [] w') : J p l e room_1 s m args below meth cd Q D base 9 k n 1269 [(5, .int (iI (i))), (4, .ref (oD)), (3, .ref (o)), (2, .ref (ay)), (1, .ref (ax)), (0, .ref (b))] [] w := by
  obtain ⟨ni, nc, nm, S, T, ad, am, th, f, g, hS, hC, hM, ⟨ho, hoD⟩, rfl, rfl, hk, hn⟩ := hLI
  have hMI := hS.MI hc.2
  have hIC := hS.1
  obtain ⟨hn0, hnc0, hnm0, e3, e4, e5, -, e7, e8⟩ := hIC.top
  refine j_aload_n X dL_law_1269 (q := 1270) rfl 4 rfl ?_
  refine j_callV X (As := []) (st := []) hC.cal rfl (c_X3_calledBack hlt hC hIC) sv_L_160 (by decide) rfl (by first | decide | exact Nat.le_of_ble_eq_true rfl) dL_law_1270 ⟨by show _ ≤ 601024; omega, by show _ ≤ 7293034; omega⟩ (fun _ _ h => h.elim) ?_
  rintro v9 w9 ⟨rfl, rfl⟩
  refine j_st (st := [.int (iI (S 6 0))]) ?_
  refine j_aload_n X dL_law_1273 (q := 1274) rfl 3 rfl ?_
  refine j_callV X (As := []) (st := [.int (iI (S 6 0))]) hM.obj rfl (c_X4_calledBack hlt hM hMI) sv_L_163 (by decide) rfl (by first | decide | exact Nat.le_of_ble_eq_true rfl) dL_law_1274 ⟨by show _ ≤ 601024; omega, by show _ ≤ 7293034; omega⟩ (fun _ _ h => h.elim) ?_
  rintro v9 w8 ⟨rfl, hM8, hF8⟩
  refine j_st (st := [.int (iI (sm (T 21) nm.toNat)), .int (iI (S 6 0))]) ?_
  have hans : sm (T 21) nm.toNat = S 6 0 := hS.cb.1
  rw [hans]
  have hcr : -2147483648 ≤ S 6 0 ∧ S 6 0 ≤ 2147483647 := by
    have hq := sm_b (f := fun i => lrc S i (S 5 0).toNat) (fun i => lrc_b S i _) nm.toNat
    have hq2 := hS.cb.2
    omega
  have hC8 := hC.fr (c := 1) (by decide) hF8
  have ho8 := hF8 _ _ ho (by show (2 : Nat) ≠ 1; decide)
  have hoD8 := hF8 _ _ hoD (by show (2 : Nat) ≠ 1; decide)
  refine j_icmp_eq X (tgt := 1475) dL_law_1277 (by decide) (q := 1280) rfl (by omega) (by omega) (fun c_1277 => ?_) (fun c_1277 => ?_)
  · skip
    exact j_lv (nx _ _ _ ⟨ni, nc, nm, S, T, ad, am, _, f, g, hS.le (by omega) (by omega), hC8, hM8, ⟨ho8, hoD8⟩, rfl, rfl, by omega, by omega⟩) [0, 1, 2, 3, 4, 5] rfl
  · skip
    exact absurd rfl c_1277

set_option maxRecDepth 100000 in
set_option maxHeartbeats 4000000 in
theorem case_21 (X : Cx p l s m args meth cd ⟨RL, mn, ""⟩ code 9 ret D ca base) (hlt : l.stackTraces = false) {b L : Nat} {xs : Nat → Int32} (hX : va_X b L xs s s.heap) (hbl : b < s.heap.size) (hbA : ¬ base ≤ b) (hL : L ≤ 2560) {i c : Int} (hi : 0 ≤ i ∧ i + 5 ≤ L) (hc : 0 ≤ c ∧ c ≤ 511) {o oD ax ay : Nat} (hbo : base ≤ o) (hbD : base ≤ oD) (hLI : LI base ca ax ay o oD c k n w) (nx : ∀ (k' n' : Nat) (w' : Wd), LI base ca ax ay o oD (c + 1) k' n' w' → J p l e room_1 s m args below meth cd Q D base 9 k' n' 1475 [(5, .int (iI (i))), (4, .ref (oD)), (3, .ref (o)), (2, .ref (ay)), (1, .ref (ax)), (0, .ref (b))] [] w') : J p l e room_1 s m args below meth cd Q D base 9 k n 1282 [(5, .int (iI (i))), (4, .ref (oD)), (3, .ref (o)), (2, .ref (ay)), (1, .ref (ax)), (0, .ref (b))] [] w := by
  obtain ⟨ni, nc, nm, S, T, ad, am, th, f, g, hS, hC, hM, ⟨ho, hoD⟩, rfl, rfl, hk, hn⟩ := hLI
  have hMI := hS.MI hc.2
  have hIC := hS.1
  obtain ⟨hn0, hnc0, hnm0, e3, e4, e5, -, e7, e8⟩ := hIC.top
  refine j_aload_n X dL_law_1282 (q := 1283) rfl 4 rfl ?_
  refine j_callV X (As := []) (st := []) hC.cal rfl (c_X3_calledBackByLog hlt hC hIC) sv_L_164 (by decide) rfl (by first | decide | exact Nat.le_of_ble_eq_true rfl) dL_law_1283 ⟨by show _ ≤ 601024; omega, by show _ ≤ 7293034; omega⟩ (fun _ _ h => h.elim) ?_
  rintro v9 w9 ⟨rfl, rfl⟩
  refine j_st (st := [.int (iI (sm (fun i => lrc S i (S 5 0).toNat) nm.toNat))]) ?_
  refine j_aload_n X dL_law_1286 (q := 1287) rfl 3 rfl ?_
  refine j_callV X (As := []) (st := [.int (iI (sm (fun i => lrc S i (S 5 0).toNat) nm.toNat))]) hM.obj rfl (c_X4_calledBackByLog hlt hM hMI) sv_L_167 (by decide) rfl (by first | decide | exact Nat.le_of_ble_eq_true rfl) dL_law_1287 ⟨by show _ ≤ 601024; omega, by show _ ≤ 7293034; omega⟩ (fun _ _ h => h.elim) ?_
  rintro v9 w8 ⟨rfl, hM8, hF8⟩
  refine j_st (st := [.int (iI (sm (T 21) nm.toNat)), .int (iI (sm (fun i => lrc S i (S 5 0).toNat) nm.toNat))]) ?_
  have hans : sm (T 21) nm.toNat = sm (fun i => lrc S i (S 5 0).toNat) nm.toNat := hS.cb.1.trans hS.cb.2.symm
  rw [hans]
  have hcr : -2147483648 ≤ sm (fun i => lrc S i (S 5 0).toNat) nm.toNat ∧ sm (fun i => lrc S i (S 5 0).toNat) nm.toNat ≤ 2147483647 := by
    have hq := sm_b (f := fun i => lrc S i (S 5 0).toNat) (fun i => lrc_b S i _) nm.toNat
    have hq2 := hS.cb.2
    omega
  have hC8 := hC.fr (c := 1) (by decide) hF8
  have ho8 := hF8 _ _ ho (by show (2 : Nat) ≠ 1; decide)
  have hoD8 := hF8 _ _ hoD (by show (2 : Nat) ≠ 1; decide)
  refine j_icmp_eq X (tgt := 1475) dL_law_1290 (by decide) (q := 1293) rfl (by omega) (by omega) (fun c_1290 => ?_) (fun c_1290 => ?_)
  · skip
    exact j_lv (nx _ _ _ ⟨ni, nc, nm, S, T, ad, am, _, f, g, hS.le (by omega) (by omega), hC8, hM8, ⟨ho8, hoD8⟩, rfl, rfl, by omega, by omega⟩) [0, 1, 2, 3, 4, 5] rfl
  · skip
    exact absurd rfl c_1290

set_option maxRecDepth 100000 in
set_option maxHeartbeats 4000000 in
theorem case_7 (X : Cx p l s m args meth cd ⟨RL, mn, ""⟩ code 9 ret D ca base) (hlt : l.stackTraces = false) {b L : Nat} {xs : Nat → Int32} (hX : va_X b L xs s s.heap) (hbl : b < s.heap.size) (hbA : ¬ base ≤ b) (hL : L ≤ 2560) {i c : Int} (hi : 0 ≤ i ∧ i + 5 ≤ L) (hc : 0 ≤ c ∧ c ≤ 511) {o oD ax ay : Nat} (hbo : base ≤ o) (hbD : base ≤ oD) (hLI : LI base ca ax ay o oD c k n w) (nx : ∀ (k' n' : Nat) (w' : Wd), LI base ca ax ay o oD (c + 1) k' n' w' → J p l e room_1 s m args below meth cd Q D base 9 k' n' 1475 [(5, .int (iI (i))), (4, .ref (oD)), (3, .ref (o)), (2, .ref (ay)), (1, .ref (ax)), (0, .ref (b))] [] w') : J p l e room_1 s m args below meth cd Q D base 9 k n 538 [(5, .int (iI (i))), (4, .ref (oD)), (3, .ref (o)), (2, .ref (ay)), (1, .ref (ax)), (0, .ref (b))] [] w := by
  obtain ⟨ni, nc, nm, S, T, ad, am, th, f, g, hS, hC, hM, ⟨ho, hoD⟩, rfl, rfl, hk, hn⟩ := hLI
  have hMI := hS.MI hc.2
  have hIC := hS.1
  obtain ⟨hn0, hnc0, hnm0, e3, e4, e5, -, e7, e8⟩ := hIC.top
  obtain ⟨z1, e1z, hz1⟩ := i32 (xs (i + 1).toNat)
  have hcq : (if 0 ≤ z1 ∧ z1 < ni then 0 else 1 : Int) = akC ni z1 := rfl
  have hcb : 0 ≤ akC ni z1 ∧ akC ni z1 ≤ 3 := by unfold akC; (repeat' split) <;> omega
  refine j_aload_n X dL_law_538 (q := 539) rfl 4 rfl ?_
  refine j_aload_n X dL_law_539 (q := 540) rfl 5 rfl ?_
  refine j_iload X dL_law_540 (q := 542) rfl 0 rfl ?_
  refine j_iconst X (a := 1) dL_law_542 (q := 543) rfl ?_
  refine j_iadd X dL_law_543 (q := 544) rfl ?_
  refine j_sld X hX hbl hbA (by omega) (by omega) dL_law_544 (q := 545) rfl ?_
  rw [e1z]
  refine j_aload_n X dL_law_545 (q := 546) rfl 2 rfl ?_
  refine j_callW X (As := [.ref (ad 0 0), .int (iI (z1)), .ref (o)]) (st := []) (c_L_intervalOf hlt hC hIC o f ho hbo z1 hz1) sw_L_119 (by decide) rfl (by decide) dL_law_546 ⟨by show _ ≤ 601024; omega, by show _ ≤ 7293034; omega⟩ ?_
  rintro v9 w9 ⟨rfl, hN, hE⟩
  refine j_st (st := [.int (iI (akC ni z1))]) ?_
  rcases Classical.em (akC ni z1 = 0) with hz0 | hz0
  · skip
    obtain ⟨f9, hf9, rfl⟩ := hN hz0
    have hw1 : Fr 0 w w := Fr.rf
    have hC1 := hC
    have hM1 := hM.fr (c := 0) (by decide) hw1
    have ho1 := hw1 _ _ ho (by show (2 : Nat) ≠ 0; decide)
    have hoD1 := hw1 _ _ hoD (by show (2 : Nat) ≠ 0; decide)
    have hFs : Fr 2 w (wu w o (eLong ca f9)) := Fr.set ho1 rfl
    have hCb := hC1.fr (c := 2) (by decide) hFs
    have hMb := hM1.fr (c := 2) (by decide) hFs
    have hwn : (wu w o (eLong ca f9)) o = some (eLong ca f9) := wu_s
    have hoDb : (wu w o (eLong ca f9)) oD = some (eDbl ca g) := (wu_n (ne_of_cell hoD1 ho1 e_DL)).trans hoD1
    have hob := hwn
    generalize (wu w o (eLong ca f9)) = wb at hCb hMb hob hoDb ⊢
    refine j_istore X (i := 6) dL_law_549 (by decide) (q := 551) rfl (lv' := [(6, .int (iI (akC ni z1))), (5, .int (iI (i))), (4, .ref (oD)), (3, .ref (o)), (2, .ref (am 0)), (1, .ref (ad 0 0)), (0, .ref (b))]) (by first | rfl | simp [cat_rf, cat_i, cat_l, cat_r]) ?_
    refine j_aload_n X dL_law_551 (q := 552) rfl 4 rfl ?_
    refine j_aload_n X dL_law_552 (q := 553) rfl 6 rfl ?_
    refine j_iload X dL_law_553 (q := 555) rfl 1 rfl ?_
    refine j_iconst X (a := 1) dL_law_555 (q := 556) rfl ?_
    refine j_iadd X dL_law_556 (q := 557) rfl ?_
    refine j_sld X hX hbl hbA (by omega) (by omega) dL_law_557 (q := 558) rfl ?_
    rw [e1z]
    refine j_callV X (As := [.int (iI (z1))]) (st := []) hMb.obj rfl (c_X4_intervalOf hlt hMb hMI z1 hz1) sv_L_121 (by decide) rfl (by first | decide | exact Nat.le_of_ble_eq_true rfl) dL_law_558 ⟨by show _ ≤ 601024; omega, by show _ ≤ 7293034; omega⟩ (fun _ _ h => h.elim) ?_
    rintro v9 w8 ⟨rfl, hM8, hF8⟩
    refine j_st (st := [.int (iI ((if 0 ≤ z1 ∧ z1 < ni then T 7 z1 else 0 : Int)))]) ?_
    have hm0 : (if 0 ≤ z1 ∧ z1 < ni then 0 else 1 : Int) = 0 := hcq.trans hz0
    have hans : (if 0 ≤ z1 ∧ z1 < ni then T 7 z1 else 0 : Int) = S 13 z1 := by
      have hk9 := ak_0 hz0
      rw [if_pos hk9]
      exact (hS.col hk9.1 hk9.2).2.2.2.1
    rw [hans]
    rw [hcq] at hM8
    have hC8 := hCb.fr (c := 1) (by decide) hF8
    have ho8 := hF8 _ _ hob (by show (2 : Nat) ≠ 1; decide)
    have hoD8 := hF8 _ _ hoDb (by show (2 : Nat) ≠ 1; decide)
    refine j_istore X (i := 7) dL_law_561 (by decide) (q := 563) rfl (lv' := [(7, .int (iI (S 13 z1))), (6, .int (iI (akC ni z1))), (5, .int (iI (i))), (4, .ref (oD)), (3, .ref (o)), (2, .ref (am 0)), (1, .ref (ad 0 0)), (0, .ref (b))]) (by first | rfl | simp [cat_rf, cat_i, cat_l, cat_r]) ?_
    refine j_aload_n X dL_law_563 (q := 564) rfl 5 rfl ?_
    refine j_callV X (As := []) (st := []) hM8.obj rfl (c_X4_thrown0 hlt hM8) sv_L_92 (by decide) rfl (by decide) dL_law_564 ⟨by show _ ≤ 601024; omega, by show _ ≤ 7293034; omega⟩ (fun _ _ h => h.elim) ?_
    rintro v7 w7 ⟨rfl, rfl⟩
    refine j_st (st := [.int (iI (akC ni z1))]) ?_
    refine j_iload X dL_law_567 (q := 569) rfl 1 rfl ?_
    refine j_icmp_eq X (tgt := 574) dL_law_569 (by decide) (q := 572) rfl (by omega) (by omega) (fun c_569 => ?_) (fun c_569 => ?_)
    · skip
      refine j_iload X dL_law_574 (q := 576) rfl 1 rfl ?_
      refine j_if_ne X (tgt := 591) dL_law_576 (by decide) (q := 579) rfl (by omega) (fun c_576 => ?_) (fun c_576 => ?_)
      · skip
        exact absurd hz0 c_576
      · skip
        refine j_aload_n X dL_law_579 (q := 580) rfl 4 rfl ?_
        refine j_iconst X (a := 0) dL_law_580 (q := 581) rfl ?_
        refine j_lald X ho8 ⟨by decide, by decide⟩ (by decide) dL_law_581 (q := 582) rfl ?_
        rw [show f9 (Int.toNat 0) = (iI (S 13 z1)).toInt64 from hf9]
        refine j_iload X dL_law_582 (q := 584) rfl 0 rfl ?_
        refine j_i2lR X dL_law_584 (q := 585) rfl ?_
        refine j_lcmpE X dL_law_585 (q := 586) rfl ?_
        refine j_if_eq X (tgt := 591) dL_law_586 (by decide) (q := 589) rfl (by omega) (fun c_586 => ?_) (fun c_586 => ?_)
        · skip
          refine j_goto X (tgt := 1475) dL_law_591 (by decide) ?_
          exact j_lv (nx _ _ _ ⟨ni, nc, nm, S, T, ad, am, _, f9, g, hS.le (by omega) (by omega), hC8, hM8, ⟨ho8, hoD8⟩, rfl, rfl, by omega, by omega⟩) [2, 3, 4, 5, 6, 7] rfl
        · skip
          exact absurd rfl c_586
    · skip
      exact absurd rfl c_569
  · skip
    obtain rfl := hE hz0
    have hCb := hC
    have hMb := hM
    have hob := ho
    have hoDb := hoD
    refine j_istore X (i := 6) dL_law_549 (by decide) (q := 551) rfl (lv' := [(6, .int (iI (akC ni z1))), (5, .int (iI (i))), (4, .ref (oD)), (3, .ref (o)), (2, .ref (am 0)), (1, .ref (ad 0 0)), (0, .ref (b))]) (by first | rfl | simp [cat_rf, cat_i, cat_l, cat_r]) ?_
    refine j_aload_n X dL_law_551 (q := 552) rfl 4 rfl ?_
    refine j_aload_n X dL_law_552 (q := 553) rfl 6 rfl ?_
    refine j_iload X dL_law_553 (q := 555) rfl 1 rfl ?_
    refine j_iconst X (a := 1) dL_law_555 (q := 556) rfl ?_
    refine j_iadd X dL_law_556 (q := 557) rfl ?_
    refine j_sld X hX hbl hbA (by omega) (by omega) dL_law_557 (q := 558) rfl ?_
    rw [e1z]
    refine j_callV X (As := [.int (iI (z1))]) (st := []) hMb.obj rfl (c_X4_intervalOf hlt hMb hMI z1 hz1) sv_L_121 (by decide) rfl (by first | decide | exact Nat.le_of_ble_eq_true rfl) dL_law_558 ⟨by show _ ≤ 601024; omega, by show _ ≤ 7293034; omega⟩ (fun _ _ h => h.elim) ?_
    rintro v9 w8 ⟨rfl, hM8, hF8⟩
    refine j_st (st := [.int (iI ((if 0 ≤ z1 ∧ z1 < ni then T 7 z1 else 0 : Int)))]) ?_
    have hm1 : (if 0 ≤ z1 ∧ z1 < ni then 0 else 1 : Int) ≠ 0 := fun q => hz0 (hcq.symm.trans q)
    rw [hcq] at hM8
    have hC8 := hCb.fr (c := 1) (by decide) hF8
    have ho8 := hF8 _ _ hob (by show (2 : Nat) ≠ 1; decide)
    have hoD8 := hF8 _ _ hoDb (by show (2 : Nat) ≠ 1; decide)
    refine j_istore X (i := 7) dL_law_561 (by decide) (q := 563) rfl (lv' := [(7, .int (iI ((if 0 ≤ z1 ∧ z1 < ni then T 7 z1 else 0 : Int)))), (6, .int (iI (akC ni z1))), (5, .int (iI (i))), (4, .ref (oD)), (3, .ref (o)), (2, .ref (am 0)), (1, .ref (ad 0 0)), (0, .ref (b))]) (by first | rfl | simp [cat_rf, cat_i, cat_l, cat_r]) ?_
    refine j_aload_n X dL_law_563 (q := 564) rfl 5 rfl ?_
    refine j_callV X (As := []) (st := []) hM8.obj rfl (c_X4_thrown0 hlt hM8) sv_L_92 (by decide) rfl (by decide) dL_law_564 ⟨by show _ ≤ 601024; omega, by show _ ≤ 7293034; omega⟩ (fun _ _ h => h.elim) ?_
    rintro v7 w7 ⟨rfl, rfl⟩
    refine j_st (st := [.int (iI (akC ni z1))]) ?_
    refine j_iload X dL_law_567 (q := 569) rfl 1 rfl ?_
    refine j_icmp_eq X (tgt := 574) dL_law_569 (by decide) (q := 572) rfl (by omega) (by omega) (fun c_569 => ?_) (fun c_569 => ?_)
    · skip
      refine j_iload X dL_law_574 (q := 576) rfl 1 rfl ?_
      refine j_if_ne X (tgt := 591) dL_law_576 (by decide) (q := 579) rfl (by omega) (fun c_576 => ?_) (fun c_576 => ?_)
      · skip
        refine j_goto X (tgt := 1475) dL_law_591 (by decide) ?_
        exact j_lv (nx _ _ _ ⟨ni, nc, nm, S, T, ad, am, _, f, g, hS.le (by omega) (by omega), hC8, hM8, ⟨ho8, hoD8⟩, rfl, rfl, by omega, by omega⟩) [2, 3, 4, 5, 6, 7] rfl
      · skip
        exact absurd c_576 hz0
    · skip
      exact absurd rfl c_569

set_option maxRecDepth 100000 in
set_option maxHeartbeats 4000000 in
theorem case_8 (X : Cx p l s m args meth cd ⟨RL, mn, ""⟩ code 9 ret D ca base) (hlt : l.stackTraces = false) {b L : Nat} {xs : Nat → Int32} (hX : va_X b L xs s s.heap) (hbl : b < s.heap.size) (hbA : ¬ base ≤ b) (hL : L ≤ 2560) {i c : Int} (hi : 0 ≤ i ∧ i + 5 ≤ L) (hc : 0 ≤ c ∧ c ≤ 511) {o oD ax ay : Nat} (hbo : base ≤ o) (hbD : base ≤ oD) (hLI : LI base ca ax ay o oD c k n w) (nx : ∀ (k' n' : Nat) (w' : Wd), LI base ca ax ay o oD (c + 1) k' n' w' → J p l e room_1 s m args below meth cd Q D base 9 k' n' 1475 [(5, .int (iI (i))), (4, .ref (oD)), (3, .ref (o)), (2, .ref (ay)), (1, .ref (ax)), (0, .ref (b))] [] w') : J p l e room_1 s m args below meth cd Q D base 9 k n 594 [(5, .int (iI (i))), (4, .ref (oD)), (3, .ref (o)), (2, .ref (ay)), (1, .ref (ax)), (0, .ref (b))] [] w := by
  obtain ⟨ni, nc, nm, S, T, ad, am, th, f, g, hS, hC, hM, ⟨ho, hoD⟩, rfl, rfl, hk, hn⟩ := hLI
  have hMI := hS.MI hc.2
  have hIC := hS.1
  obtain ⟨hn0, hnc0, hnm0, e3, e4, e5, -, e7, e8⟩ := hIC.top
  obtain ⟨z1, e1z, hz1⟩ := i32 (xs (i + 1).toNat)
  have hcq : (if 0 ≤ z1 ∧ z1 < ni then 0 else 1 : Int) = akC ni z1 := rfl
  have hcb : 0 ≤ akC ni z1 ∧ akC ni z1 ≤ 3 := by unfold akC; (repeat' split) <;> omega
  refine j_aload_n X dL_law_594 (q := 595) rfl 4 rfl ?_
  refine j_aload_n X dL_law_595 (q := 596) rfl 5 rfl ?_
  refine j_iload X dL_law_596 (q := 598) rfl 0 rfl ?_
  refine j_iconst X (a := 1) dL_law_598 (q := 599) rfl ?_
  refine j_iadd X dL_law_599 (q := 600) rfl ?_
  refine j_sld X hX hbl hbA (by omega) (by omega) dL_law_600 (q := 601) rfl ?_
  rw [e1z]
  refine j_aload_n X dL_law_601 (q := 602) rfl 2 rfl ?_
  refine j_callW X (As := [.ref (ad 0 0), .int (iI (z1)), .ref (o)]) (st := []) (c_L_dueOf hlt hC hIC o f ho hbo z1 hz1) sw_L_122 (by decide) rfl (by decide) dL_law_602 ⟨by show _ ≤ 601024; omega, by show _ ≤ 7293034; omega⟩ ?_
  rintro v9 w9 ⟨rfl, hN, hE⟩
  refine j_st (st := [.int (iI (akC ni z1))]) ?_
  rcases Classical.em (akC ni z1 = 0) with hz0 | hz0
  · skip
    obtain ⟨f9, hf9, rfl⟩ := hN hz0
    have hw1 : Fr 0 w w := Fr.rf
    have hC1 := hC
    have hM1 := hM.fr (c := 0) (by decide) hw1
    have ho1 := hw1 _ _ ho (by show (2 : Nat) ≠ 0; decide)
    have hoD1 := hw1 _ _ hoD (by show (2 : Nat) ≠ 0; decide)
    have hFs : Fr 2 w (wu w o (eLong ca f9)) := Fr.set ho1 rfl
    have hCb := hC1.fr (c := 2) (by decide) hFs
    have hMb := hM1.fr (c := 2) (by decide) hFs
    have hwn : (wu w o (eLong ca f9)) o = some (eLong ca f9) := wu_s
    have hoDb : (wu w o (eLong ca f9)) oD = some (eDbl ca g) := (wu_n (ne_of_cell hoD1 ho1 e_DL)).trans hoD1
    have hob := hwn
    generalize (wu w o (eLong ca f9)) = wb at hCb hMb hob hoDb ⊢
    refine j_istore X (i := 6) dL_law_605 (by decide) (q := 607) rfl (lv' := [(6, .int (iI (akC ni z1))), (5, .int (iI (i))), (4, .ref (oD)), (3, .ref (o)), (2, .ref (am 0)), (1, .ref (ad 0 0)), (0, .ref (b))]) (by first | rfl | simp [cat_rf, cat_i, cat_l, cat_r]) ?_
    refine j_aload_n X dL_law_607 (q := 608) rfl 4 rfl ?_
    refine j_aload_n X dL_law_608 (q := 609) rfl 6 rfl ?_
    refine j_iload X dL_law_609 (q := 611) rfl 1 rfl ?_
    refine j_iconst X (a := 1) dL_law_611 (q := 612) rfl ?_
    refine j_iadd X dL_law_612 (q := 613) rfl ?_
    refine j_sld X hX hbl hbA (by omega) (by omega) dL_law_613 (q := 614) rfl ?_
    rw [e1z]
    refine j_callV X (As := [.int (iI (z1))]) (st := []) hMb.obj rfl (c_X4_dueOf hlt hMb hMI z1 hz1) sv_L_124 (by decide) rfl (by first | decide | exact Nat.le_of_ble_eq_true rfl) dL_law_614 ⟨by show _ ≤ 601024; omega, by show _ ≤ 7293034; omega⟩ (fun _ _ h => h.elim) ?_
    rintro v9 w8 ⟨rfl, hM8, hF8⟩
    refine j_st (st := [.int (iI ((if 0 ≤ z1 ∧ z1 < ni then (if 0 < T 8 z1 then T 11 z1 else -1) else 0 : Int)))]) ?_
    have hm0 : (if 0 ≤ z1 ∧ z1 < ni then 0 else 1 : Int) = 0 := hcq.trans hz0
    have hans : (if 0 ≤ z1 ∧ z1 < ni then (if 0 < T 8 z1 then T 11 z1 else -1) else 0 : Int) = if S 15 z1 < 0 then -1 else S 21 (S 15 z1) + S 13 z1 := by
      have hk9 := ak_0 hz0
      rw [if_pos hk9]
      have h2 := hS.cal hk9.1 hk9.2
      by_cases cc : S 15 z1 < 0
      · rw [if_neg (by omega), if_pos cc]
      · rw [if_pos (by omega), if_neg cc]; exact hS.due hk9.1 hk9.2 (by omega)
    rw [hans]
    rw [hcq] at hM8
    have hC8 := hCb.fr (c := 1) (by decide) hF8
    have ho8 := hF8 _ _ hob (by show (2 : Nat) ≠ 1; decide)
    have hoD8 := hF8 _ _ hoDb (by show (2 : Nat) ≠ 1; decide)
    refine j_istore X (i := 7) dL_law_617 (by decide) (q := 619) rfl (lv' := [(7, .int (iI (if S 15 z1 < 0 then -1 else S 21 (S 15 z1) + S 13 z1))), (6, .int (iI (akC ni z1))), (5, .int (iI (i))), (4, .ref (oD)), (3, .ref (o)), (2, .ref (am 0)), (1, .ref (ad 0 0)), (0, .ref (b))]) (by first | rfl | simp [cat_rf, cat_i, cat_l, cat_r]) ?_
    refine j_aload_n X dL_law_619 (q := 620) rfl 5 rfl ?_
    refine j_callV X (As := []) (st := []) hM8.obj rfl (c_X4_thrown0 hlt hM8) sv_L_92 (by decide) rfl (by decide) dL_law_620 ⟨by show _ ≤ 601024; omega, by show _ ≤ 7293034; omega⟩ (fun _ _ h => h.elim) ?_
    rintro v7 w7 ⟨rfl, rfl⟩
    refine j_st (st := [.int (iI (akC ni z1))]) ?_
    refine j_iload X dL_law_623 (q := 625) rfl 1 rfl ?_
    refine j_icmp_eq X (tgt := 630) dL_law_625 (by decide) (q := 628) rfl (by omega) (by omega) (fun c_625 => ?_) (fun c_625 => ?_)
    · skip
      refine j_iload X dL_law_630 (q := 632) rfl 1 rfl ?_
      refine j_if_ne X (tgt := 647) dL_law_632 (by decide) (q := 635) rfl (by omega) (fun c_632 => ?_) (fun c_632 => ?_)
      · skip
        exact absurd hz0 c_632
      · skip
        refine j_aload_n X dL_law_635 (q := 636) rfl 4 rfl ?_
        refine j_iconst X (a := 0) dL_law_636 (q := 637) rfl ?_
        refine j_lald X ho8 ⟨by decide, by decide⟩ (by decide) dL_law_637 (q := 638) rfl ?_
        rw [show f9 (Int.toNat 0) = (iI (if S 15 z1 < 0 then -1 else S 21 (S 15 z1) + S 13 z1)).toInt64 from hf9]
        refine j_iload X dL_law_638 (q := 640) rfl 0 rfl ?_
        refine j_i2lR X dL_law_640 (q := 641) rfl ?_
        refine j_lcmpE X dL_law_641 (q := 642) rfl ?_
        refine j_if_eq X (tgt := 647) dL_law_642 (by decide) (q := 645) rfl (by omega) (fun c_642 => ?_) (fun c_642 => ?_)
        · skip
          refine j_goto X (tgt := 1475) dL_law_647 (by decide) ?_
          exact j_lv (nx _ _ _ ⟨ni, nc, nm, S, T, ad, am, _, f9, g, hS.le (by omega) (by omega), hC8, hM8, ⟨ho8, hoD8⟩, rfl, rfl, by omega, by omega⟩) [2, 3, 4, 5, 6, 7] rfl
        · skip
          exact absurd rfl c_642
    · skip
      exact absurd rfl c_625
  · skip
    obtain rfl := hE hz0
    have hCb := hC
    have hMb := hM
    have hob := ho
    have hoDb := hoD
    refine j_istore X (i := 6) dL_law_605 (by decide) (q := 607) rfl (lv' := [(6, .int (iI (akC ni z1))), (5, .int (iI (i))), (4, .ref (oD)), (3, .ref (o)), (2, .ref (am 0)), (1, .ref (ad 0 0)), (0, .ref (b))]) (by first | rfl | simp [cat_rf, cat_i, cat_l, cat_r]) ?_
    refine j_aload_n X dL_law_607 (q := 608) rfl 4 rfl ?_
    refine j_aload_n X dL_law_608 (q := 609) rfl 6 rfl ?_
    refine j_iload X dL_law_609 (q := 611) rfl 1 rfl ?_
    refine j_iconst X (a := 1) dL_law_611 (q := 612) rfl ?_
    refine j_iadd X dL_law_612 (q := 613) rfl ?_
    refine j_sld X hX hbl hbA (by omega) (by omega) dL_law_613 (q := 614) rfl ?_
    rw [e1z]
    refine j_callV X (As := [.int (iI (z1))]) (st := []) hMb.obj rfl (c_X4_dueOf hlt hMb hMI z1 hz1) sv_L_124 (by decide) rfl (by first | decide | exact Nat.le_of_ble_eq_true rfl) dL_law_614 ⟨by show _ ≤ 601024; omega, by show _ ≤ 7293034; omega⟩ (fun _ _ h => h.elim) ?_
    rintro v9 w8 ⟨rfl, hM8, hF8⟩
    refine j_st (st := [.int (iI ((if 0 ≤ z1 ∧ z1 < ni then (if 0 < T 8 z1 then T 11 z1 else -1) else 0 : Int)))]) ?_
    have hm1 : (if 0 ≤ z1 ∧ z1 < ni then 0 else 1 : Int) ≠ 0 := fun q => hz0 (hcq.symm.trans q)
    rw [hcq] at hM8
    have hC8 := hCb.fr (c := 1) (by decide) hF8
    have ho8 := hF8 _ _ hob (by show (2 : Nat) ≠ 1; decide)
    have hoD8 := hF8 _ _ hoDb (by show (2 : Nat) ≠ 1; decide)
    refine j_istore X (i := 7) dL_law_617 (by decide) (q := 619) rfl (lv' := [(7, .int (iI ((if 0 ≤ z1 ∧ z1 < ni then (if 0 < T 8 z1 then T 11 z1 else -1) else 0 : Int)))), (6, .int (iI (akC ni z1))), (5, .int (iI (i))), (4, .ref (oD)), (3, .ref (o)), (2, .ref (am 0)), (1, .ref (ad 0 0)), (0, .ref (b))]) (by first | rfl | simp [cat_rf, cat_i, cat_l, cat_r]) ?_
    refine j_aload_n X dL_law_619 (q := 620) rfl 5 rfl ?_
    refine j_callV X (As := []) (st := []) hM8.obj rfl (c_X4_thrown0 hlt hM8) sv_L_92 (by decide) rfl (by decide) dL_law_620 ⟨by show _ ≤ 601024; omega, by show _ ≤ 7293034; omega⟩ (fun _ _ h => h.elim) ?_
    rintro v7 w7 ⟨rfl, rfl⟩
    refine j_st (st := [.int (iI (akC ni z1))]) ?_
    refine j_iload X dL_law_623 (q := 625) rfl 1 rfl ?_
    refine j_icmp_eq X (tgt := 630) dL_law_625 (by decide) (q := 628) rfl (by omega) (by omega) (fun c_625 => ?_) (fun c_625 => ?_)
    · skip
      refine j_iload X dL_law_630 (q := 632) rfl 1 rfl ?_
      refine j_if_ne X (tgt := 647) dL_law_632 (by decide) (q := 635) rfl (by omega) (fun c_632 => ?_) (fun c_632 => ?_)
      · skip
        refine j_goto X (tgt := 1475) dL_law_647 (by decide) ?_
        exact j_lv (nx _ _ _ ⟨ni, nc, nm, S, T, ad, am, _, f, g, hS.le (by omega) (by omega), hC8, hM8, ⟨ho8, hoD8⟩, rfl, rfl, by omega, by omega⟩) [2, 3, 4, 5, 6, 7] rfl
      · skip
        exact absurd c_632 hz0
    · skip
      exact absurd rfl c_625

set_option maxRecDepth 100000 in
set_option maxHeartbeats 4000000 in
theorem case_9 (X : Cx p l s m args meth cd ⟨RL, mn, ""⟩ code 9 ret D ca base) (hlt : l.stackTraces = false) {b L : Nat} {xs : Nat → Int32} (hX : va_X b L xs s s.heap) (hbl : b < s.heap.size) (hbA : ¬ base ≤ b) (hL : L ≤ 2560) {i c : Int} (hi : 0 ≤ i ∧ i + 5 ≤ L) (hc : 0 ≤ c ∧ c ≤ 511) {o oD ax ay : Nat} (hbo : base ≤ o) (hbD : base ≤ oD) (hLI : LI base ca ax ay o oD c k n w) (nx : ∀ (k' n' : Nat) (w' : Wd), LI base ca ax ay o oD (c + 1) k' n' w' → J p l e room_1 s m args below meth cd Q D base 9 k' n' 1475 [(5, .int (iI (i))), (4, .ref (oD)), (3, .ref (o)), (2, .ref (ay)), (1, .ref (ax)), (0, .ref (b))] [] w') : J p l e room_1 s m args below meth cd Q D base 9 k n 650 [(5, .int (iI (i))), (4, .ref (oD)), (3, .ref (o)), (2, .ref (ay)), (1, .ref (ax)), (0, .ref (b))] [] w := by
  obtain ⟨ni, nc, nm, S, T, ad, am, th, f, g, hS, hC, hM, ⟨ho, hoD⟩, rfl, rfl, hk, hn⟩ := hLI
  have hMI := hS.MI hc.2
  have hIC := hS.1
  obtain ⟨hn0, hnc0, hnm0, e3, e4, e5, -, e7, e8⟩ := hIC.top
  obtain ⟨z1, e1z, hz1⟩ := i32 (xs (i + 1).toNat)
  have hcq : (if 0 ≤ z1 ∧ z1 < ni then 0 else 1 : Int) = akC ni z1 := rfl
  have hcb : 0 ≤ akC ni z1 ∧ akC ni z1 ≤ 3 := by unfold akC; (repeat' split) <;> omega
  have htb := tf_b (0 ≤ S 15 z1 ∧ S 26 (S 15 z1) = 1)
  refine j_aload_n X dL_law_650 (q := 651) rfl 4 rfl ?_
  refine j_aload_n X dL_law_651 (q := 652) rfl 5 rfl ?_
  refine j_iload X dL_law_652 (q := 654) rfl 0 rfl ?_
  refine j_iconst X (a := 1) dL_law_654 (q := 655) rfl ?_
  refine j_iadd X dL_law_655 (q := 656) rfl ?_
  refine j_sld X hX hbl hbA (by omega) (by omega) dL_law_656 (q := 657) rfl ?_
  rw [e1z]
  refine j_aload_n X dL_law_657 (q := 658) rfl 2 rfl ?_
  refine j_callW X (As := [.ref (ad 0 0), .int (iI (z1)), .ref (o)]) (st := []) (c_L_isSuspect hlt hC hIC o f ho hbo z1 hz1) sw_L_125 (by decide) rfl (by decide) dL_law_658 ⟨by show _ ≤ 601024; omega, by show _ ≤ 7293034; omega⟩ ?_
  rintro v9 w9 ⟨rfl, hN, hE⟩
  refine j_st (st := [.int (iI (akC ni z1))]) ?_
  rcases Classical.em (akC ni z1 = 0) with hz0 | hz0
  · skip
    obtain ⟨f9, hf9, rfl⟩ := hN hz0
    have hw1 : Fr 0 w w := Fr.rf
    have hC1 := hC
    have hM1 := hM.fr (c := 0) (by decide) hw1
    have ho1 := hw1 _ _ ho (by show (2 : Nat) ≠ 0; decide)
    have hoD1 := hw1 _ _ hoD (by show (2 : Nat) ≠ 0; decide)
    have hFs : Fr 2 w (wu w o (eLong ca f9)) := Fr.set ho1 rfl
    have hCb := hC1.fr (c := 2) (by decide) hFs
    have hMb := hM1.fr (c := 2) (by decide) hFs
    have hwn : (wu w o (eLong ca f9)) o = some (eLong ca f9) := wu_s
    have hoDb : (wu w o (eLong ca f9)) oD = some (eDbl ca g) := (wu_n (ne_of_cell hoD1 ho1 e_DL)).trans hoD1
    have hob := hwn
    generalize (wu w o (eLong ca f9)) = wb at hCb hMb hob hoDb ⊢
    refine j_istore X (i := 6) dL_law_661 (by decide) (q := 663) rfl (lv' := [(6, .int (iI (akC ni z1))), (5, .int (iI (i))), (4, .ref (oD)), (3, .ref (o)), (2, .ref (am 0)), (1, .ref (ad 0 0)), (0, .ref (b))]) (by first | rfl | simp [cat_rf, cat_i, cat_l, cat_r]) ?_
    refine j_aload_n X dL_law_663 (q := 664) rfl 4 rfl ?_
    refine j_aload_n X dL_law_664 (q := 665) rfl 6 rfl ?_
    refine j_iload X dL_law_665 (q := 667) rfl 1 rfl ?_
    refine j_iconst X (a := 1) dL_law_667 (q := 668) rfl ?_
    refine j_iadd X dL_law_668 (q := 669) rfl ?_
    refine j_sld X hX hbl hbA (by omega) (by omega) dL_law_669 (q := 670) rfl ?_
    rw [e1z]
    refine j_callV X (As := [.int (iI (z1))]) (st := []) hMb.obj rfl (c_X4_isSuspect hlt hMb hMI z1 hz1) sv_L_127 (by decide) rfl (by first | decide | exact Nat.le_of_ble_eq_true rfl) dL_law_670 ⟨by show _ ≤ 601024; omega, by show _ ≤ 7293034; omega⟩ (fun _ _ h => h.elim) ?_
    rintro v9 w8 ⟨rfl, hM8, hF8⟩
    refine j_st (st := [.int (iI ((if 0 ≤ z1 ∧ z1 < ni then T 13 z1 else 0 : Int)))]) ?_
    have hm0 : (if 0 ≤ z1 ∧ z1 < ni then 0 else 1 : Int) = 0 := hcq.trans hz0
    have hans : (if 0 ≤ z1 ∧ z1 < ni then T 13 z1 else 0 : Int) = tf (0 ≤ S 15 z1 ∧ S 26 (S 15 z1) = 1) := by
      have hk9 := ak_0 hz0
      rw [if_pos hk9]
      exact hS.sus hk9.1 hk9.2
    rw [hans]
    rw [hcq] at hM8
    have hC8 := hCb.fr (c := 1) (by decide) hF8
    have ho8 := hF8 _ _ hob (by show (2 : Nat) ≠ 1; decide)
    have hoD8 := hF8 _ _ hoDb (by show (2 : Nat) ≠ 1; decide)
    refine j_istore X (i := 7) dL_law_673 (by decide) (q := 675) rfl (lv' := [(7, .int (iI (tf (0 ≤ S 15 z1 ∧ S 26 (S 15 z1) = 1)))), (6, .int (iI (akC ni z1))), (5, .int (iI (i))), (4, .ref (oD)), (3, .ref (o)), (2, .ref (am 0)), (1, .ref (ad 0 0)), (0, .ref (b))]) (by first | rfl | simp [cat_rf, cat_i, cat_l, cat_r]) ?_
    refine j_aload_n X dL_law_675 (q := 676) rfl 5 rfl ?_
    refine j_callV X (As := []) (st := []) hM8.obj rfl (c_X4_thrown0 hlt hM8) sv_L_92 (by decide) rfl (by decide) dL_law_676 ⟨by show _ ≤ 601024; omega, by show _ ≤ 7293034; omega⟩ (fun _ _ h => h.elim) ?_
    rintro v7 w7 ⟨rfl, rfl⟩
    refine j_st (st := [.int (iI (akC ni z1))]) ?_
    refine j_iload X dL_law_679 (q := 681) rfl 1 rfl ?_
    refine j_icmp_eq X (tgt := 686) dL_law_681 (by decide) (q := 684) rfl (by omega) (by omega) (fun c_681 => ?_) (fun c_681 => ?_)
    · skip
      refine j_iload X dL_law_686 (q := 688) rfl 1 rfl ?_
      refine j_if_ne X (tgt := 710) dL_law_688 (by decide) (q := 691) rfl (by omega) (fun c_688 => ?_) (fun c_688 => ?_)
      · skip
        exact absurd hz0 c_688
      · skip
        refine j_aload_n X dL_law_691 (q := 692) rfl 4 rfl ?_
        refine j_iconst X (a := 0) dL_law_692 (q := 693) rfl ?_
        refine j_lald X ho8 ⟨by decide, by decide⟩ (by decide) dL_law_693 (q := 694) rfl ?_
        rw [show f9 (Int.toNat 0) = iL (tf (0 ≤ S 15 z1 ∧ S 26 (S 15 z1) = 1)) from hf9]
        refine j_iload X dL_law_694 (q := 696) rfl 0 rfl ?_
        refine j_if_eq X (tgt := 703) dL_law_696 (by decide) (q := 699) rfl (by omega) (fun c_696 => ?_) (fun c_696 => ?_)
        · skip
          refine j_lconst X (a := 0) (by decide +kernel) dL_law_703 (q := 704) rfl ?_
          rw [show (tf (0 ≤ S 15 z1 ∧ S 26 (S 15 z1) = 1) : Int) = 0 from c_696]
          refine j_lcmpE X dL_law_704 (q := 705) rfl ?_
          refine j_if_eq X (tgt := 710) dL_law_705 (by decide) (q := 708) rfl (by omega) (fun c_705 => ?_) (fun c_705 => ?_)
          · skip
            refine j_goto X (tgt := 1475) dL_law_710 (by decide) ?_
            exact j_lv (nx _ _ _ ⟨ni, nc, nm, S, T, ad, am, _, f9, g, hS.le (by omega) (by omega), hC8, hM8, ⟨ho8, hoD8⟩, rfl, rfl, by omega, by omega⟩) [2, 3, 4, 5, 6, 7] rfl
          · skip
            exact absurd rfl c_705
        · skip
          refine j_lconst X (a := 1) (by decide +kernel) dL_law_699 (q := 700) rfl ?_
          refine j_goto X (tgt := 704) dL_law_700 (by decide) ?_
          rw [show (tf (0 ≤ S 15 z1 ∧ S 26 (S 15 z1) = 1) : Int) = 1 from (by omega)]
          refine j_lcmpE X dL_law_704 (q := 705) rfl ?_
          refine j_if_eq X (tgt := 710) dL_law_705 (by decide) (q := 708) rfl (by omega) (fun c_705 => ?_) (fun c_705 => ?_)
          · skip
            refine j_goto X (tgt := 1475) dL_law_710 (by decide) ?_
            exact j_lv (nx _ _ _ ⟨ni, nc, nm, S, T, ad, am, _, f9, g, hS.le (by omega) (by omega), hC8, hM8, ⟨ho8, hoD8⟩, rfl, rfl, by omega, by omega⟩) [2, 3, 4, 5, 6, 7] rfl
          · skip
            exact absurd rfl c_705
    · skip
      exact absurd rfl c_681
  · skip
    obtain rfl := hE hz0
    have hCb := hC
    have hMb := hM
    have hob := ho
    have hoDb := hoD
    refine j_istore X (i := 6) dL_law_661 (by decide) (q := 663) rfl (lv' := [(6, .int (iI (akC ni z1))), (5, .int (iI (i))), (4, .ref (oD)), (3, .ref (o)), (2, .ref (am 0)), (1, .ref (ad 0 0)), (0, .ref (b))]) (by first | rfl | simp [cat_rf, cat_i, cat_l, cat_r]) ?_
    refine j_aload_n X dL_law_663 (q := 664) rfl 4 rfl ?_
    refine j_aload_n X dL_law_664 (q := 665) rfl 6 rfl ?_
    refine j_iload X dL_law_665 (q := 667) rfl 1 rfl ?_
    refine j_iconst X (a := 1) dL_law_667 (q := 668) rfl ?_
    refine j_iadd X dL_law_668 (q := 669) rfl ?_
    refine j_sld X hX hbl hbA (by omega) (by omega) dL_law_669 (q := 670) rfl ?_
    rw [e1z]
    refine j_callV X (As := [.int (iI (z1))]) (st := []) hMb.obj rfl (c_X4_isSuspect hlt hMb hMI z1 hz1) sv_L_127 (by decide) rfl (by first | decide | exact Nat.le_of_ble_eq_true rfl) dL_law_670 ⟨by show _ ≤ 601024; omega, by show _ ≤ 7293034; omega⟩ (fun _ _ h => h.elim) ?_
    rintro v9 w8 ⟨rfl, hM8, hF8⟩
    refine j_st (st := [.int (iI ((if 0 ≤ z1 ∧ z1 < ni then T 13 z1 else 0 : Int)))]) ?_
    have hm1 : (if 0 ≤ z1 ∧ z1 < ni then 0 else 1 : Int) ≠ 0 := fun q => hz0 (hcq.symm.trans q)
    rw [hcq] at hM8
    have hC8 := hCb.fr (c := 1) (by decide) hF8
    have ho8 := hF8 _ _ hob (by show (2 : Nat) ≠ 1; decide)
    have hoD8 := hF8 _ _ hoDb (by show (2 : Nat) ≠ 1; decide)
    refine j_istore X (i := 7) dL_law_673 (by decide) (q := 675) rfl (lv' := [(7, .int (iI ((if 0 ≤ z1 ∧ z1 < ni then T 13 z1 else 0 : Int)))), (6, .int (iI (akC ni z1))), (5, .int (iI (i))), (4, .ref (oD)), (3, .ref (o)), (2, .ref (am 0)), (1, .ref (ad 0 0)), (0, .ref (b))]) (by first | rfl | simp [cat_rf, cat_i, cat_l, cat_r]) ?_
    refine j_aload_n X dL_law_675 (q := 676) rfl 5 rfl ?_
    refine j_callV X (As := []) (st := []) hM8.obj rfl (c_X4_thrown0 hlt hM8) sv_L_92 (by decide) rfl (by decide) dL_law_676 ⟨by show _ ≤ 601024; omega, by show _ ≤ 7293034; omega⟩ (fun _ _ h => h.elim) ?_
    rintro v7 w7 ⟨rfl, rfl⟩
    refine j_st (st := [.int (iI (akC ni z1))]) ?_
    refine j_iload X dL_law_679 (q := 681) rfl 1 rfl ?_
    refine j_icmp_eq X (tgt := 686) dL_law_681 (by decide) (q := 684) rfl (by omega) (by omega) (fun c_681 => ?_) (fun c_681 => ?_)
    · skip
      refine j_iload X dL_law_686 (q := 688) rfl 1 rfl ?_
      refine j_if_ne X (tgt := 710) dL_law_688 (by decide) (q := 691) rfl (by omega) (fun c_688 => ?_) (fun c_688 => ?_)
      · skip
        refine j_goto X (tgt := 1475) dL_law_710 (by decide) ?_
        exact j_lv (nx _ _ _ ⟨ni, nc, nm, S, T, ad, am, _, f, g, hS.le (by omega) (by omega), hC8, hM8, ⟨ho8, hoD8⟩, rfl, rfl, by omega, by omega⟩) [2, 3, 4, 5, 6, 7] rfl
      · skip
        exact absurd c_688 hz0
    · skip
      exact absurd rfl c_681

set_option maxRecDepth 100000 in
set_option maxHeartbeats 4000000 in
theorem case_10 (X : Cx p l s m args meth cd ⟨RL, mn, ""⟩ code 9 ret D ca base) (hlt : l.stackTraces = false) {b L : Nat} {xs : Nat → Int32} (hX : va_X b L xs s s.heap) (hbl : b < s.heap.size) (hbA : ¬ base ≤ b) (hL : L ≤ 2560) {i c : Int} (hi : 0 ≤ i ∧ i + 5 ≤ L) (hc : 0 ≤ c ∧ c ≤ 511) {o oD ax ay : Nat} (hbo : base ≤ o) (hbD : base ≤ oD) (hLI : LI base ca ax ay o oD c k n w) (nx : ∀ (k' n' : Nat) (w' : Wd), LI base ca ax ay o oD (c + 1) k' n' w' → J p l e room_1 s m args below meth cd Q D base 9 k' n' 1475 [(5, .int (iI (i))), (4, .ref (oD)), (3, .ref (o)), (2, .ref (ay)), (1, .ref (ax)), (0, .ref (b))] [] w') : J p l e room_1 s m args below meth cd Q D base 9 k n 713 [(5, .int (iI (i))), (4, .ref (oD)), (3, .ref (o)), (2, .ref (ay)), (1, .ref (ax)), (0, .ref (b))] [] w := by
  obtain ⟨ni, nc, nm, S, T, ad, am, th, f, g, hS, hC, hM, ⟨ho, hoD⟩, rfl, rfl, hk, hn⟩ := hLI
  have hMI := hS.MI hc.2
  have hIC := hS.1
  obtain ⟨hn0, hnc0, hnm0, e3, e4, e5, -, e7, e8⟩ := hIC.top
  obtain ⟨z1, e1z, hz1⟩ := i32 (xs (i + 1).toNat)
  have hcq : (if 0 ≤ z1 ∧ z1 < ni then 0 else 1 : Int) = akC ni z1 := rfl
  have hcb : 0 ≤ akC ni z1 ∧ akC ni z1 ≤ 3 := by unfold akC; (repeat' split) <;> omega
  refine j_aload_n X dL_law_713 (q := 714) rfl 4 rfl ?_
  refine j_aload_n X dL_law_714 (q := 715) rfl 5 rfl ?_
  refine j_iload X dL_law_715 (q := 717) rfl 0 rfl ?_
  refine j_iconst X (a := 1) dL_law_717 (q := 718) rfl ?_
  refine j_iadd X dL_law_718 (q := 719) rfl ?_
  refine j_sld X hX hbl hbA (by omega) (by omega) dL_law_719 (q := 720) rfl ?_
  rw [e1z]
  refine j_aload_n X dL_law_720 (q := 721) rfl 2 rfl ?_
  refine j_callW X (As := [.ref (ad 0 0), .int (iI (z1)), .ref (o)]) (st := []) (c_L_distrusted hlt hC hIC o f ho hbo z1 hz1) sw_L_128 (by decide) rfl (by decide) dL_law_721 ⟨by show _ ≤ 601024; omega, by show _ ≤ 7293034; omega⟩ ?_
  rintro v9 w9 ⟨rfl, hN, hE⟩
  refine j_st (st := [.int (iI (akC ni z1))]) ?_
  rcases Classical.em (akC ni z1 = 0) with hz0 | hz0
  · skip
    obtain ⟨f9, hf9, rfl⟩ := hN hz0
    have hw1 : Fr 0 w w := Fr.rf
    have hC1 := hC
    have hM1 := hM.fr (c := 0) (by decide) hw1
    have ho1 := hw1 _ _ ho (by show (2 : Nat) ≠ 0; decide)
    have hoD1 := hw1 _ _ hoD (by show (2 : Nat) ≠ 0; decide)
    have hFs : Fr 2 w (wu w o (eLong ca f9)) := Fr.set ho1 rfl
    have hCb := hC1.fr (c := 2) (by decide) hFs
    have hMb := hM1.fr (c := 2) (by decide) hFs
    have hwn : (wu w o (eLong ca f9)) o = some (eLong ca f9) := wu_s
    have hoDb : (wu w o (eLong ca f9)) oD = some (eDbl ca g) := (wu_n (ne_of_cell hoD1 ho1 e_DL)).trans hoD1
    have hob := hwn
    generalize (wu w o (eLong ca f9)) = wb at hCb hMb hob hoDb ⊢
    refine j_istore X (i := 6) dL_law_724 (by decide) (q := 726) rfl (lv' := [(6, .int (iI (akC ni z1))), (5, .int (iI (i))), (4, .ref (oD)), (3, .ref (o)), (2, .ref (am 0)), (1, .ref (ad 0 0)), (0, .ref (b))]) (by first | rfl | simp [cat_rf, cat_i, cat_l, cat_r]) ?_
    refine j_aload_n X dL_law_726 (q := 727) rfl 4 rfl ?_
    refine j_aload_n X dL_law_727 (q := 728) rfl 6 rfl ?_
    refine j_iload X dL_law_728 (q := 730) rfl 1 rfl ?_
    refine j_iconst X (a := 1) dL_law_730 (q := 731) rfl ?_
    refine j_iadd X dL_law_731 (q := 732) rfl ?_
    refine j_sld X hX hbl hbA (by omega) (by omega) dL_law_732 (q := 733) rfl ?_
    rw [e1z]
    refine j_callV X (As := [.int (iI (z1))]) (st := []) hMb.obj rfl (c_X4_distrusted hlt hMb hMI z1 hz1) sv_L_130 (by decide) rfl (by first | decide | exact Nat.le_of_ble_eq_true rfl) dL_law_733 ⟨by show _ ≤ 601024; omega, by show _ ≤ 7293034; omega⟩ (fun _ _ h => h.elim) ?_
    rintro v9 w8 ⟨rfl, hM8, hF8⟩
    refine j_st (st := [.int (iI ((if 0 ≤ z1 ∧ z1 < ni then fof (T 4) (inM T) 12 z1 else 0 : Int)))]) ?_
    have hm0 : (if 0 ≤ z1 ∧ z1 < ni then 0 else 1 : Int) = 0 := hcq.trans hz0
    have hans : (if 0 ≤ z1 ∧ z1 < ni then fof (T 4) (inM T) 12 z1 else 0 : Int) = fof (S 14) (inF S) 12 z1 := by
      have hk9 := ak_0 hz0
      rw [if_pos hk9]
      exact hS.fof hk9.2
    rw [hans]
    rw [hcq] at hM8
    have hC8 := hCb.fr (c := 1) (by decide) hF8
    have ho8 := hF8 _ _ hob (by show (2 : Nat) ≠ 1; decide)
    have hoD8 := hF8 _ _ hoDb (by show (2 : Nat) ≠ 1; decide)
    refine j_istore X (i := 7) dL_law_736 (by decide) (q := 738) rfl (lv' := [(7, .int (iI (fof (S 14) (inF S) 12 z1))), (6, .int (iI (akC ni z1))), (5, .int (iI (i))), (4, .ref (oD)), (3, .ref (o)), (2, .ref (am 0)), (1, .ref (ad 0 0)), (0, .ref (b))]) (by first | rfl | simp [cat_rf, cat_i, cat_l, cat_r]) ?_
    refine j_aload_n X dL_law_738 (q := 739) rfl 5 rfl ?_
    refine j_callV X (As := []) (st := []) hM8.obj rfl (c_X4_thrown0 hlt hM8) sv_L_92 (by decide) rfl (by decide) dL_law_739 ⟨by show _ ≤ 601024; omega, by show _ ≤ 7293034; omega⟩ (fun _ _ h => h.elim) ?_
    rintro v7 w7 ⟨rfl, rfl⟩
    refine j_st (st := [.int (iI (akC ni z1))]) ?_
    refine j_iload X dL_law_742 (q := 744) rfl 1 rfl ?_
    refine j_icmp_eq X (tgt := 749) dL_law_744 (by decide) (q := 747) rfl (by omega) (by omega) (fun c_744 => ?_) (fun c_744 => ?_)
    · skip
      refine j_iload X dL_law_749 (q := 751) rfl 1 rfl ?_
      refine j_if_ne X (tgt := 766) dL_law_751 (by decide) (q := 754) rfl (by omega) (fun c_751 => ?_) (fun c_751 => ?_)
      · skip
        exact absurd hz0 c_751
      · skip
        refine j_aload_n X dL_law_754 (q := 755) rfl 4 rfl ?_
        refine j_iconst X (a := 0) dL_law_755 (q := 756) rfl ?_
        refine j_lald X ho8 ⟨by decide, by decide⟩ (by decide) dL_law_756 (q := 757) rfl ?_
        rw [show f9 (Int.toNat 0) = (iI (fof (S 14) (inF S) 12 z1)).toInt64 from hf9]
        refine j_iload X dL_law_757 (q := 759) rfl 0 rfl ?_
        refine j_i2lR X dL_law_759 (q := 760) rfl ?_
        refine j_lcmpE X dL_law_760 (q := 761) rfl ?_
        refine j_if_eq X (tgt := 766) dL_law_761 (by decide) (q := 764) rfl (by omega) (fun c_761 => ?_) (fun c_761 => ?_)
        · skip
          refine j_goto X (tgt := 1475) dL_law_766 (by decide) ?_
          exact j_lv (nx _ _ _ ⟨ni, nc, nm, S, T, ad, am, _, f9, g, hS.le (by omega) (by omega), hC8, hM8, ⟨ho8, hoD8⟩, rfl, rfl, by omega, by omega⟩) [2, 3, 4, 5, 6, 7] rfl
        · skip
          exact absurd rfl c_761
    · skip
      exact absurd rfl c_744
  · skip
    obtain rfl := hE hz0
    have hCb := hC
    have hMb := hM
    have hob := ho
    have hoDb := hoD
    refine j_istore X (i := 6) dL_law_724 (by decide) (q := 726) rfl (lv' := [(6, .int (iI (akC ni z1))), (5, .int (iI (i))), (4, .ref (oD)), (3, .ref (o)), (2, .ref (am 0)), (1, .ref (ad 0 0)), (0, .ref (b))]) (by first | rfl | simp [cat_rf, cat_i, cat_l, cat_r]) ?_
    refine j_aload_n X dL_law_726 (q := 727) rfl 4 rfl ?_
    refine j_aload_n X dL_law_727 (q := 728) rfl 6 rfl ?_
    refine j_iload X dL_law_728 (q := 730) rfl 1 rfl ?_
    refine j_iconst X (a := 1) dL_law_730 (q := 731) rfl ?_
    refine j_iadd X dL_law_731 (q := 732) rfl ?_
    refine j_sld X hX hbl hbA (by omega) (by omega) dL_law_732 (q := 733) rfl ?_
    rw [e1z]
    refine j_callV X (As := [.int (iI (z1))]) (st := []) hMb.obj rfl (c_X4_distrusted hlt hMb hMI z1 hz1) sv_L_130 (by decide) rfl (by first | decide | exact Nat.le_of_ble_eq_true rfl) dL_law_733 ⟨by show _ ≤ 601024; omega, by show _ ≤ 7293034; omega⟩ (fun _ _ h => h.elim) ?_
    rintro v9 w8 ⟨rfl, hM8, hF8⟩
    refine j_st (st := [.int (iI ((if 0 ≤ z1 ∧ z1 < ni then fof (T 4) (inM T) 12 z1 else 0 : Int)))]) ?_
    have hm1 : (if 0 ≤ z1 ∧ z1 < ni then 0 else 1 : Int) ≠ 0 := fun q => hz0 (hcq.symm.trans q)
    rw [hcq] at hM8
    have hC8 := hCb.fr (c := 1) (by decide) hF8
    have ho8 := hF8 _ _ hob (by show (2 : Nat) ≠ 1; decide)
    have hoD8 := hF8 _ _ hoDb (by show (2 : Nat) ≠ 1; decide)
    refine j_istore X (i := 7) dL_law_736 (by decide) (q := 738) rfl (lv' := [(7, .int (iI ((if 0 ≤ z1 ∧ z1 < ni then fof (T 4) (inM T) 12 z1 else 0 : Int)))), (6, .int (iI (akC ni z1))), (5, .int (iI (i))), (4, .ref (oD)), (3, .ref (o)), (2, .ref (am 0)), (1, .ref (ad 0 0)), (0, .ref (b))]) (by first | rfl | simp [cat_rf, cat_i, cat_l, cat_r]) ?_
    refine j_aload_n X dL_law_738 (q := 739) rfl 5 rfl ?_
    refine j_callV X (As := []) (st := []) hM8.obj rfl (c_X4_thrown0 hlt hM8) sv_L_92 (by decide) rfl (by decide) dL_law_739 ⟨by show _ ≤ 601024; omega, by show _ ≤ 7293034; omega⟩ (fun _ _ h => h.elim) ?_
    rintro v7 w7 ⟨rfl, rfl⟩
    refine j_st (st := [.int (iI (akC ni z1))]) ?_
    refine j_iload X dL_law_742 (q := 744) rfl 1 rfl ?_
    refine j_icmp_eq X (tgt := 749) dL_law_744 (by decide) (q := 747) rfl (by omega) (by omega) (fun c_744 => ?_) (fun c_744 => ?_)
    · skip
      refine j_iload X dL_law_749 (q := 751) rfl 1 rfl ?_
      refine j_if_ne X (tgt := 766) dL_law_751 (by decide) (q := 754) rfl (by omega) (fun c_751 => ?_) (fun c_751 => ?_)
      · skip
        refine j_goto X (tgt := 1475) dL_law_766 (by decide) ?_
        exact j_lv (nx _ _ _ ⟨ni, nc, nm, S, T, ad, am, _, f, g, hS.le (by omega) (by omega), hC8, hM8, ⟨ho8, hoD8⟩, rfl, rfl, by omega, by omega⟩) [2, 3, 4, 5, 6, 7] rfl
      · skip
        exact absurd c_751 hz0
    · skip
      exact absurd rfl c_744

set_option maxRecDepth 100000 in
set_option maxHeartbeats 4000000 in
theorem case_11 (X : Cx p l s m args meth cd ⟨RL, mn, ""⟩ code 9 ret D ca base) (hlt : l.stackTraces = false) {b L : Nat} {xs : Nat → Int32} (hX : va_X b L xs s s.heap) (hbl : b < s.heap.size) (hbA : ¬ base ≤ b) (hL : L ≤ 2560) {i c : Int} (hi : 0 ≤ i ∧ i + 5 ≤ L) (hc : 0 ≤ c ∧ c ≤ 511) {o oD ax ay : Nat} (hbo : base ≤ o) (hbD : base ≤ oD) (hLI : LI base ca ax ay o oD c k n w) (nx : ∀ (k' n' : Nat) (w' : Wd), LI base ca ax ay o oD (c + 1) k' n' w' → J p l e room_1 s m args below meth cd Q D base 9 k' n' 1475 [(5, .int (iI (i))), (4, .ref (oD)), (3, .ref (o)), (2, .ref (ay)), (1, .ref (ax)), (0, .ref (b))] [] w') : J p l e room_1 s m args below meth cd Q D base 9 k n 769 [(5, .int (iI (i))), (4, .ref (oD)), (3, .ref (o)), (2, .ref (ay)), (1, .ref (ax)), (0, .ref (b))] [] w := by
  obtain ⟨ni, nc, nm, S, T, ad, am, th, f, g, hS, hC, hM, ⟨ho, hoD⟩, rfl, rfl, hk, hn⟩ := hLI
  have hMI := hS.MI hc.2
  have hIC := hS.1
  obtain ⟨hn0, hnc0, hnm0, e3, e4, e5, -, e7, e8⟩ := hIC.top
  obtain ⟨z1, e1z, hz1⟩ := i32 (xs (i + 1).toNat)
  have hcq : (if 0 ≤ z1 ∧ z1 < ni then 0 else 1 : Int) = akC ni z1 := rfl
  have hcb : 0 ≤ akC ni z1 ∧ akC ni z1 ≤ 3 := by unfold akC; (repeat' split) <;> omega
  refine j_aload_n X dL_law_769 (q := 770) rfl 4 rfl ?_
  refine j_aload_n X dL_law_770 (q := 771) rfl 5 rfl ?_
  refine j_iload X dL_law_771 (q := 773) rfl 0 rfl ?_
  refine j_iconst X (a := 1) dL_law_773 (q := 774) rfl ?_
  refine j_iadd X dL_law_774 (q := 775) rfl ?_
  refine j_sld X hX hbl hbA (by omega) (by omega) dL_law_775 (q := 776) rfl ?_
  rw [e1z]
  refine j_aload_n X dL_law_776 (q := 777) rfl 2 rfl ?_
  refine j_callW X (As := [.ref (ad 0 0), .int (iI (z1)), .ref (o)]) (st := []) (c_L_chain hlt hC hIC o f ho hbo z1 hz1) sw_L_131 (by decide) rfl (by decide) dL_law_777 ⟨by show _ ≤ 601024; omega, by show _ ≤ 7293034; omega⟩ ?_
  rintro v9 w9 ⟨rfl, hN, hE⟩
  refine j_st (st := [.int (iI (akC ni z1))]) ?_
  rcases Classical.em (akC ni z1 = 0) with hz0 | hz0
  · skip
    obtain ⟨f9, hf9, rfl⟩ := hN hz0
    have hw1 : Fr 0 w w := Fr.rf
    have hC1 := hC
    have hM1 := hM.fr (c := 0) (by decide) hw1
    have ho1 := hw1 _ _ ho (by show (2 : Nat) ≠ 0; decide)
    have hoD1 := hw1 _ _ hoD (by show (2 : Nat) ≠ 0; decide)
    have hFs : Fr 2 w (wu w o (eLong ca f9)) := Fr.set ho1 rfl
    have hCb := hC1.fr (c := 2) (by decide) hFs
    have hMb := hM1.fr (c := 2) (by decide) hFs
    have hwn : (wu w o (eLong ca f9)) o = some (eLong ca f9) := wu_s
    have hoDb : (wu w o (eLong ca f9)) oD = some (eDbl ca g) := (wu_n (ne_of_cell hoD1 ho1 e_DL)).trans hoD1
    have hob := hwn
    generalize (wu w o (eLong ca f9)) = wb at hCb hMb hob hoDb ⊢
    refine j_istore X (i := 6) dL_law_780 (by decide) (q := 782) rfl (lv' := [(6, .int (iI (akC ni z1))), (5, .int (iI (i))), (4, .ref (oD)), (3, .ref (o)), (2, .ref (am 0)), (1, .ref (ad 0 0)), (0, .ref (b))]) (by first | rfl | simp [cat_rf, cat_i, cat_l, cat_r]) ?_
    refine j_aload_n X dL_law_782 (q := 783) rfl 4 rfl ?_
    refine j_aload_n X dL_law_783 (q := 784) rfl 6 rfl ?_
    refine j_iload X dL_law_784 (q := 786) rfl 1 rfl ?_
    refine j_iconst X (a := 1) dL_law_786 (q := 787) rfl ?_
    refine j_iadd X dL_law_787 (q := 788) rfl ?_
    refine j_sld X hX hbl hbA (by omega) (by omega) dL_law_788 (q := 789) rfl ?_
    rw [e1z]
    refine j_callV X (As := [.int (iI (z1))]) (st := []) hMb.obj rfl (c_X4_chain hlt hMb hMI z1 hz1) sv_L_133 (by decide) rfl (by first | decide | exact Nat.le_of_ble_eq_true rfl) dL_law_789 ⟨by show _ ≤ 601024; omega, by show _ ≤ 7293034; omega⟩ (fun _ _ h => h.elim) ?_
    rintro v9 w8 ⟨rfl, hM8, hF8⟩
    refine j_st (st := [.int (iI ((if 0 ≤ z1 ∧ z1 < ni then len (T 4) 12 z1 else 0 : Int)))]) ?_
    have hm0 : (if 0 ≤ z1 ∧ z1 < ni then 0 else 1 : Int) = 0 := hcq.trans hz0
    have hans : (if 0 ≤ z1 ∧ z1 < ni then len (T 4) 12 z1 else 0 : Int) = len (S 14) 12 z1 := by
      have hk9 := ak_0 hz0
      rw [if_pos hk9]
      exact hS.len hk9.2
    rw [hans]
    rw [hcq] at hM8
    have hC8 := hCb.fr (c := 1) (by decide) hF8
    have ho8 := hF8 _ _ hob (by show (2 : Nat) ≠ 1; decide)
    have hoD8 := hF8 _ _ hoDb (by show (2 : Nat) ≠ 1; decide)
    refine j_istore X (i := 7) dL_law_792 (by decide) (q := 794) rfl (lv' := [(7, .int (iI (len (S 14) 12 z1))), (6, .int (iI (akC ni z1))), (5, .int (iI (i))), (4, .ref (oD)), (3, .ref (o)), (2, .ref (am 0)), (1, .ref (ad 0 0)), (0, .ref (b))]) (by first | rfl | simp [cat_rf, cat_i, cat_l, cat_r]) ?_
    refine j_aload_n X dL_law_794 (q := 795) rfl 5 rfl ?_
    refine j_callV X (As := []) (st := []) hM8.obj rfl (c_X4_thrown0 hlt hM8) sv_L_92 (by decide) rfl (by decide) dL_law_795 ⟨by show _ ≤ 601024; omega, by show _ ≤ 7293034; omega⟩ (fun _ _ h => h.elim) ?_
    rintro v7 w7 ⟨rfl, rfl⟩
    refine j_st (st := [.int (iI (akC ni z1))]) ?_
    refine j_iload X dL_law_798 (q := 800) rfl 1 rfl ?_
    refine j_icmp_eq X (tgt := 805) dL_law_800 (by decide) (q := 803) rfl (by omega) (by omega) (fun c_800 => ?_) (fun c_800 => ?_)
    · skip
      refine j_iload X dL_law_805 (q := 807) rfl 1 rfl ?_
      refine j_if_ne X (tgt := 822) dL_law_807 (by decide) (q := 810) rfl (by omega) (fun c_807 => ?_) (fun c_807 => ?_)
      · skip
        exact absurd hz0 c_807
      · skip
        refine j_aload_n X dL_law_810 (q := 811) rfl 4 rfl ?_
        refine j_iconst X (a := 0) dL_law_811 (q := 812) rfl ?_
        refine j_lald X ho8 ⟨by decide, by decide⟩ (by decide) dL_law_812 (q := 813) rfl ?_
        rw [show f9 (Int.toNat 0) = (iI (len (S 14) 12 z1)).toInt64 from hf9]
        refine j_iload X dL_law_813 (q := 815) rfl 0 rfl ?_
        refine j_i2lR X dL_law_815 (q := 816) rfl ?_
        refine j_lcmpE X dL_law_816 (q := 817) rfl ?_
        refine j_if_eq X (tgt := 822) dL_law_817 (by decide) (q := 820) rfl (by omega) (fun c_817 => ?_) (fun c_817 => ?_)
        · skip
          refine j_goto X (tgt := 1475) dL_law_822 (by decide) ?_
          exact j_lv (nx _ _ _ ⟨ni, nc, nm, S, T, ad, am, _, f9, g, hS.le (by omega) (by omega), hC8, hM8, ⟨ho8, hoD8⟩, rfl, rfl, by omega, by omega⟩) [2, 3, 4, 5, 6, 7] rfl
        · skip
          exact absurd rfl c_817
    · skip
      exact absurd rfl c_800
  · skip
    obtain rfl := hE hz0
    have hCb := hC
    have hMb := hM
    have hob := ho
    have hoDb := hoD
    refine j_istore X (i := 6) dL_law_780 (by decide) (q := 782) rfl (lv' := [(6, .int (iI (akC ni z1))), (5, .int (iI (i))), (4, .ref (oD)), (3, .ref (o)), (2, .ref (am 0)), (1, .ref (ad 0 0)), (0, .ref (b))]) (by first | rfl | simp [cat_rf, cat_i, cat_l, cat_r]) ?_
    refine j_aload_n X dL_law_782 (q := 783) rfl 4 rfl ?_
    refine j_aload_n X dL_law_783 (q := 784) rfl 6 rfl ?_
    refine j_iload X dL_law_784 (q := 786) rfl 1 rfl ?_
    refine j_iconst X (a := 1) dL_law_786 (q := 787) rfl ?_
    refine j_iadd X dL_law_787 (q := 788) rfl ?_
    refine j_sld X hX hbl hbA (by omega) (by omega) dL_law_788 (q := 789) rfl ?_
    rw [e1z]
    refine j_callV X (As := [.int (iI (z1))]) (st := []) hMb.obj rfl (c_X4_chain hlt hMb hMI z1 hz1) sv_L_133 (by decide) rfl (by first | decide | exact Nat.le_of_ble_eq_true rfl) dL_law_789 ⟨by show _ ≤ 601024; omega, by show _ ≤ 7293034; omega⟩ (fun _ _ h => h.elim) ?_
    rintro v9 w8 ⟨rfl, hM8, hF8⟩
    refine j_st (st := [.int (iI ((if 0 ≤ z1 ∧ z1 < ni then len (T 4) 12 z1 else 0 : Int)))]) ?_
    have hm1 : (if 0 ≤ z1 ∧ z1 < ni then 0 else 1 : Int) ≠ 0 := fun q => hz0 (hcq.symm.trans q)
    rw [hcq] at hM8
    have hC8 := hCb.fr (c := 1) (by decide) hF8
    have ho8 := hF8 _ _ hob (by show (2 : Nat) ≠ 1; decide)
    have hoD8 := hF8 _ _ hoDb (by show (2 : Nat) ≠ 1; decide)
    refine j_istore X (i := 7) dL_law_792 (by decide) (q := 794) rfl (lv' := [(7, .int (iI ((if 0 ≤ z1 ∧ z1 < ni then len (T 4) 12 z1 else 0 : Int)))), (6, .int (iI (akC ni z1))), (5, .int (iI (i))), (4, .ref (oD)), (3, .ref (o)), (2, .ref (am 0)), (1, .ref (ad 0 0)), (0, .ref (b))]) (by first | rfl | simp [cat_rf, cat_i, cat_l, cat_r]) ?_
    refine j_aload_n X dL_law_794 (q := 795) rfl 5 rfl ?_
    refine j_callV X (As := []) (st := []) hM8.obj rfl (c_X4_thrown0 hlt hM8) sv_L_92 (by decide) rfl (by decide) dL_law_795 ⟨by show _ ≤ 601024; omega, by show _ ≤ 7293034; omega⟩ (fun _ _ h => h.elim) ?_
    rintro v7 w7 ⟨rfl, rfl⟩
    refine j_st (st := [.int (iI (akC ni z1))]) ?_
    refine j_iload X dL_law_798 (q := 800) rfl 1 rfl ?_
    refine j_icmp_eq X (tgt := 805) dL_law_800 (by decide) (q := 803) rfl (by omega) (by omega) (fun c_800 => ?_) (fun c_800 => ?_)
    · skip
      refine j_iload X dL_law_805 (q := 807) rfl 1 rfl ?_
      refine j_if_ne X (tgt := 822) dL_law_807 (by decide) (q := 810) rfl (by omega) (fun c_807 => ?_) (fun c_807 => ?_)
      · skip
        refine j_goto X (tgt := 1475) dL_law_822 (by decide) ?_
        exact j_lv (nx _ _ _ ⟨ni, nc, nm, S, T, ad, am, _, f, g, hS.le (by omega) (by omega), hC8, hM8, ⟨ho8, hoD8⟩, rfl, rfl, by omega, by omega⟩) [2, 3, 4, 5, 6, 7] rfl
      · skip
        exact absurd c_807 hz0
    · skip
      exact absurd rfl c_800

set_option maxRecDepth 100000 in
set_option maxHeartbeats 4000000 in
theorem case_12 (X : Cx p l s m args meth cd ⟨RL, mn, ""⟩ code 9 ret D ca base) (hlt : l.stackTraces = false) {b L : Nat} {xs : Nat → Int32} (hX : va_X b L xs s s.heap) (hbl : b < s.heap.size) (hbA : ¬ base ≤ b) (hL : L ≤ 2560) {i c : Int} (hi : 0 ≤ i ∧ i + 5 ≤ L) (hc : 0 ≤ c ∧ c ≤ 511) {o oD ax ay : Nat} (hbo : base ≤ o) (hbD : base ≤ oD) (hLI : LI base ca ax ay o oD c k n w) (nx : ∀ (k' n' : Nat) (w' : Wd), LI base ca ax ay o oD (c + 1) k' n' w' → J p l e room_1 s m args below meth cd Q D base 9 k' n' 1475 [(5, .int (iI (i))), (4, .ref (oD)), (3, .ref (o)), (2, .ref (ay)), (1, .ref (ax)), (0, .ref (b))] [] w') : J p l e room_1 s m args below meth cd Q D base 9 k n 825 [(5, .int (iI (i))), (4, .ref (oD)), (3, .ref (o)), (2, .ref (ay)), (1, .ref (ax)), (0, .ref (b))] [] w := by
  obtain ⟨ni, nc, nm, S, T, ad, am, th, f, g, hS, hC, hM, ⟨ho, hoD⟩, rfl, rfl, hk, hn⟩ := hLI
  have hMI := hS.MI hc.2
  have hIC := hS.1
  obtain ⟨hn0, hnc0, hnm0, e3, e4, e5, -, e7, e8⟩ := hIC.top
  obtain ⟨z1, e1z, hz1⟩ := i32 (xs (i + 1).toNat)
  have hcq : (if 0 ≤ z1 ∧ z1 < ni then 0 else 1 : Int) = akC ni z1 := rfl
  have hcb : 0 ≤ akC ni z1 ∧ akC ni z1 ≤ 3 := by unfold akC; (repeat' split) <;> omega
  refine j_aload_n X dL_law_825 (q := 826) rfl 4 rfl ?_
  refine j_aload_n X dL_law_826 (q := 827) rfl 5 rfl ?_
  refine j_iload X dL_law_827 (q := 829) rfl 0 rfl ?_
  refine j_iconst X (a := 1) dL_law_829 (q := 830) rfl ?_
  refine j_iadd X dL_law_830 (q := 831) rfl ?_
  refine j_sld X hX hbl hbA (by omega) (by omega) dL_law_831 (q := 832) rfl ?_
  rw [e1z]
  refine j_aload_n X dL_law_832 (q := 833) rfl 2 rfl ?_
  refine j_callW X (As := [.ref (ad 0 0), .int (iI (z1)), .ref (o)]) (st := []) (c_L_failures hlt hC hIC o f ho hbo z1 hz1) sw_L_134 (by decide) rfl (by decide) dL_law_833 ⟨by show _ ≤ 601024; omega, by show _ ≤ 7293034; omega⟩ ?_
  rintro v9 w9 ⟨rfl, hN, hE⟩
  refine j_st (st := [.int (iI (akC ni z1))]) ?_
  rcases Classical.em (akC ni z1 = 0) with hz0 | hz0
  · skip
    obtain ⟨f9, hf9, rfl⟩ := hN hz0
    have hw1 : Fr 0 w w := Fr.rf
    have hC1 := hC
    have hM1 := hM.fr (c := 0) (by decide) hw1
    have ho1 := hw1 _ _ ho (by show (2 : Nat) ≠ 0; decide)
    have hoD1 := hw1 _ _ hoD (by show (2 : Nat) ≠ 0; decide)
    have hFs : Fr 2 w (wu w o (eLong ca f9)) := Fr.set ho1 rfl
    have hCb := hC1.fr (c := 2) (by decide) hFs
    have hMb := hM1.fr (c := 2) (by decide) hFs
    have hwn : (wu w o (eLong ca f9)) o = some (eLong ca f9) := wu_s
    have hoDb : (wu w o (eLong ca f9)) oD = some (eDbl ca g) := (wu_n (ne_of_cell hoD1 ho1 e_DL)).trans hoD1
    have hob := hwn
    generalize (wu w o (eLong ca f9)) = wb at hCb hMb hob hoDb ⊢
    refine j_istore X (i := 6) dL_law_836 (by decide) (q := 838) rfl (lv' := [(6, .int (iI (akC ni z1))), (5, .int (iI (i))), (4, .ref (oD)), (3, .ref (o)), (2, .ref (am 0)), (1, .ref (ad 0 0)), (0, .ref (b))]) (by first | rfl | simp [cat_rf, cat_i, cat_l, cat_r]) ?_
    refine j_aload_n X dL_law_838 (q := 839) rfl 4 rfl ?_
    refine j_aload_n X dL_law_839 (q := 840) rfl 6 rfl ?_
    refine j_iload X dL_law_840 (q := 842) rfl 1 rfl ?_
    refine j_iconst X (a := 1) dL_law_842 (q := 843) rfl ?_
    refine j_iadd X dL_law_843 (q := 844) rfl ?_
    refine j_sld X hX hbl hbA (by omega) (by omega) dL_law_844 (q := 845) rfl ?_
    rw [e1z]
    refine j_callV X (As := [.int (iI (z1))]) (st := []) hMb.obj rfl (c_X4_failures hlt hMb hMI z1 hz1) sv_L_136 (by decide) rfl (by first | decide | exact Nat.le_of_ble_eq_true rfl) dL_law_845 ⟨by show _ ≤ 601024; omega, by show _ ≤ 7293034; omega⟩ (fun _ _ h => h.elim) ?_
    rintro v9 w8 ⟨rfl, hM8, hF8⟩
    refine j_st (st := [.int (iI ((if 0 ≤ z1 ∧ z1 < ni then T 14 z1 else 0 : Int)))]) ?_
    have hm0 : (if 0 ≤ z1 ∧ z1 < ni then 0 else 1 : Int) = 0 := hcq.trans hz0
    have hans : (if 0 ≤ z1 ∧ z1 < ni then T 14 z1 else 0 : Int) = S 16 z1 := by
      have hk9 := ak_0 hz0
      rw [if_pos hk9]
      exact (hS.col hk9.1 hk9.2).2.2.2.2
    rw [hans]
    rw [hcq] at hM8
    have hC8 := hCb.fr (c := 1) (by decide) hF8
    have ho8 := hF8 _ _ hob (by show (2 : Nat) ≠ 1; decide)
    have hoD8 := hF8 _ _ hoDb (by show (2 : Nat) ≠ 1; decide)
    refine j_istore X (i := 7) dL_law_848 (by decide) (q := 850) rfl (lv' := [(7, .int (iI (S 16 z1))), (6, .int (iI (akC ni z1))), (5, .int (iI (i))), (4, .ref (oD)), (3, .ref (o)), (2, .ref (am 0)), (1, .ref (ad 0 0)), (0, .ref (b))]) (by first | rfl | simp [cat_rf, cat_i, cat_l, cat_r]) ?_
    refine j_aload_n X dL_law_850 (q := 851) rfl 5 rfl ?_
    refine j_callV X (As := []) (st := []) hM8.obj rfl (c_X4_thrown0 hlt hM8) sv_L_92 (by decide) rfl (by decide) dL_law_851 ⟨by show _ ≤ 601024; omega, by show _ ≤ 7293034; omega⟩ (fun _ _ h => h.elim) ?_
    rintro v7 w7 ⟨rfl, rfl⟩
    refine j_st (st := [.int (iI (akC ni z1))]) ?_
    refine j_iload X dL_law_854 (q := 856) rfl 1 rfl ?_
    refine j_icmp_eq X (tgt := 861) dL_law_856 (by decide) (q := 859) rfl (by omega) (by omega) (fun c_856 => ?_) (fun c_856 => ?_)
    · skip
      refine j_iload X dL_law_861 (q := 863) rfl 1 rfl ?_
      refine j_if_ne X (tgt := 878) dL_law_863 (by decide) (q := 866) rfl (by omega) (fun c_863 => ?_) (fun c_863 => ?_)
      · skip
        exact absurd hz0 c_863
      · skip
        refine j_aload_n X dL_law_866 (q := 867) rfl 4 rfl ?_
        refine j_iconst X (a := 0) dL_law_867 (q := 868) rfl ?_
        refine j_lald X ho8 ⟨by decide, by decide⟩ (by decide) dL_law_868 (q := 869) rfl ?_
        rw [show f9 (Int.toNat 0) = (iI (S 16 z1)).toInt64 from hf9]
        refine j_iload X dL_law_869 (q := 871) rfl 0 rfl ?_
        refine j_i2lR X dL_law_871 (q := 872) rfl ?_
        refine j_lcmpE X dL_law_872 (q := 873) rfl ?_
        refine j_if_eq X (tgt := 878) dL_law_873 (by decide) (q := 876) rfl (by omega) (fun c_873 => ?_) (fun c_873 => ?_)
        · skip
          refine j_goto X (tgt := 1475) dL_law_878 (by decide) ?_
          exact j_lv (nx _ _ _ ⟨ni, nc, nm, S, T, ad, am, _, f9, g, hS.le (by omega) (by omega), hC8, hM8, ⟨ho8, hoD8⟩, rfl, rfl, by omega, by omega⟩) [2, 3, 4, 5, 6, 7] rfl
        · skip
          exact absurd rfl c_873
    · skip
      exact absurd rfl c_856
  · skip
    obtain rfl := hE hz0
    have hCb := hC
    have hMb := hM
    have hob := ho
    have hoDb := hoD
    refine j_istore X (i := 6) dL_law_836 (by decide) (q := 838) rfl (lv' := [(6, .int (iI (akC ni z1))), (5, .int (iI (i))), (4, .ref (oD)), (3, .ref (o)), (2, .ref (am 0)), (1, .ref (ad 0 0)), (0, .ref (b))]) (by first | rfl | simp [cat_rf, cat_i, cat_l, cat_r]) ?_
    refine j_aload_n X dL_law_838 (q := 839) rfl 4 rfl ?_
    refine j_aload_n X dL_law_839 (q := 840) rfl 6 rfl ?_
    refine j_iload X dL_law_840 (q := 842) rfl 1 rfl ?_
    refine j_iconst X (a := 1) dL_law_842 (q := 843) rfl ?_
    refine j_iadd X dL_law_843 (q := 844) rfl ?_
    refine j_sld X hX hbl hbA (by omega) (by omega) dL_law_844 (q := 845) rfl ?_
    rw [e1z]
    refine j_callV X (As := [.int (iI (z1))]) (st := []) hMb.obj rfl (c_X4_failures hlt hMb hMI z1 hz1) sv_L_136 (by decide) rfl (by first | decide | exact Nat.le_of_ble_eq_true rfl) dL_law_845 ⟨by show _ ≤ 601024; omega, by show _ ≤ 7293034; omega⟩ (fun _ _ h => h.elim) ?_
    rintro v9 w8 ⟨rfl, hM8, hF8⟩
    refine j_st (st := [.int (iI ((if 0 ≤ z1 ∧ z1 < ni then T 14 z1 else 0 : Int)))]) ?_
    have hm1 : (if 0 ≤ z1 ∧ z1 < ni then 0 else 1 : Int) ≠ 0 := fun q => hz0 (hcq.symm.trans q)
    rw [hcq] at hM8
    have hC8 := hCb.fr (c := 1) (by decide) hF8
    have ho8 := hF8 _ _ hob (by show (2 : Nat) ≠ 1; decide)
    have hoD8 := hF8 _ _ hoDb (by show (2 : Nat) ≠ 1; decide)
    refine j_istore X (i := 7) dL_law_848 (by decide) (q := 850) rfl (lv' := [(7, .int (iI ((if 0 ≤ z1 ∧ z1 < ni then T 14 z1 else 0 : Int)))), (6, .int (iI (akC ni z1))), (5, .int (iI (i))), (4, .ref (oD)), (3, .ref (o)), (2, .ref (am 0)), (1, .ref (ad 0 0)), (0, .ref (b))]) (by first | rfl | simp [cat_rf, cat_i, cat_l, cat_r]) ?_
    refine j_aload_n X dL_law_850 (q := 851) rfl 5 rfl ?_
    refine j_callV X (As := []) (st := []) hM8.obj rfl (c_X4_thrown0 hlt hM8) sv_L_92 (by decide) rfl (by decide) dL_law_851 ⟨by show _ ≤ 601024; omega, by show _ ≤ 7293034; omega⟩ (fun _ _ h => h.elim) ?_
    rintro v7 w7 ⟨rfl, rfl⟩
    refine j_st (st := [.int (iI (akC ni z1))]) ?_
    refine j_iload X dL_law_854 (q := 856) rfl 1 rfl ?_
    refine j_icmp_eq X (tgt := 861) dL_law_856 (by decide) (q := 859) rfl (by omega) (by omega) (fun c_856 => ?_) (fun c_856 => ?_)
    · skip
      refine j_iload X dL_law_861 (q := 863) rfl 1 rfl ?_
      refine j_if_ne X (tgt := 878) dL_law_863 (by decide) (q := 866) rfl (by omega) (fun c_863 => ?_) (fun c_863 => ?_)
      · skip
        refine j_goto X (tgt := 1475) dL_law_878 (by decide) ?_
        exact j_lv (nx _ _ _ ⟨ni, nc, nm, S, T, ad, am, _, f, g, hS.le (by omega) (by omega), hC8, hM8, ⟨ho8, hoD8⟩, rfl, rfl, by omega, by omega⟩) [2, 3, 4, 5, 6, 7] rfl
      · skip
        exact absurd c_863 hz0
    · skip
      exact absurd rfl c_856

set_option maxRecDepth 100000 in
set_option maxHeartbeats 4000000 in
theorem case_15 (X : Cx p l s m args meth cd ⟨RL, mn, ""⟩ code 9 ret D ca base) (hlt : l.stackTraces = false) {b L : Nat} {xs : Nat → Int32} (hX : va_X b L xs s s.heap) (hbl : b < s.heap.size) (hbA : ¬ base ≤ b) (hL : L ≤ 2560) {i c : Int} (hi : 0 ≤ i ∧ i + 5 ≤ L) (hc : 0 ≤ c ∧ c ≤ 511) {o oD ax ay : Nat} (hbo : base ≤ o) (hbD : base ≤ oD) (hLI : LI base ca ax ay o oD c k n w) (nx : ∀ (k' n' : Nat) (w' : Wd), LI base ca ax ay o oD (c + 1) k' n' w' → J p l e room_1 s m args below meth cd Q D base 9 k' n' 1475 [(5, .int (iI (i))), (4, .ref (oD)), (3, .ref (o)), (2, .ref (ay)), (1, .ref (ax)), (0, .ref (b))] [] w') : J p l e room_1 s m args below meth cd Q D base 9 k n 1025 [(5, .int (iI (i))), (4, .ref (oD)), (3, .ref (o)), (2, .ref (ay)), (1, .ref (ax)), (0, .ref (b))] [] w := by
  obtain ⟨ni, nc, nm, S, T, ad, am, th, f, g, hS, hC, hM, ⟨ho, hoD⟩, rfl, rfl, hk, hn⟩ := hLI
  have hMI := hS.MI hc.2
  have hIC := hS.1
  obtain ⟨hn0, hnc0, hnm0, e3, e4, e5, -, e7, e8⟩ := hIC.top
  obtain ⟨z1, e1z, hz1⟩ := i32 (xs (i + 1).toNat)
  have hcq : (if 0 ≤ z1 ∧ z1 < ni then 0 else 1 : Int) = akC ni z1 := rfl
  have hcb : 0 ≤ akC ni z1 ∧ akC ni z1 ≤ 3 := by unfold akC; (repeat' split) <;> omega
  refine j_aload_n X dL_law_1025 (q := 1026) rfl 4 rfl ?_
  refine j_aload_n X dL_law_1026 (q := 1027) rfl 5 rfl ?_
  refine j_iload X dL_law_1027 (q := 1029) rfl 0 rfl ?_
  refine j_iconst X (a := 1) dL_law_1029 (q := 1030) rfl ?_
  refine j_iadd X dL_law_1030 (q := 1031) rfl ?_
  refine j_sld X hX hbl hbA (by omega) (by omega) dL_law_1031 (q := 1032) rfl ?_
  rw [e1z]
  refine j_aload_n X dL_law_1032 (q := 1033) rfl 2 rfl ?_
  refine j_callW X (As := [.ref (ad 0 0), .int (iI (z1)), .ref (o)]) (st := []) (c_L_driftsOut hlt hC hIC o f ho hbo z1 hz1) sw_L_144 (by decide) rfl (by decide) dL_law_1033 ⟨by show _ ≤ 601024; omega, by show _ ≤ 7293034; omega⟩ ?_
  rintro v9 w9 ⟨rfl, hN, hE⟩
  refine j_st (st := [.int (iI (akC ni z1))]) ?_
  rcases Classical.em (akC ni z1 = 0) with hz0 | hz0
  · skip
    obtain ⟨f9, hf9, rfl⟩ := hN hz0
    have hw1 : Fr 0 w w := Fr.rf
    have hC1 := hC
    have hM1 := hM.fr (c := 0) (by decide) hw1
    have ho1 := hw1 _ _ ho (by show (2 : Nat) ≠ 0; decide)
    have hoD1 := hw1 _ _ hoD (by show (2 : Nat) ≠ 0; decide)
    have hFs : Fr 2 w (wu w o (eLong ca f9)) := Fr.set ho1 rfl
    have hCb := hC1.fr (c := 2) (by decide) hFs
    have hMb := hM1.fr (c := 2) (by decide) hFs
    have hwn : (wu w o (eLong ca f9)) o = some (eLong ca f9) := wu_s
    have hoDb : (wu w o (eLong ca f9)) oD = some (eDbl ca g) := (wu_n (ne_of_cell hoD1 ho1 e_DL)).trans hoD1
    have hob := hwn
    generalize (wu w o (eLong ca f9)) = wb at hCb hMb hob hoDb ⊢
    refine j_istore X (i := 6) dL_law_1036 (by decide) (q := 1038) rfl (lv' := [(6, .int (iI (akC ni z1))), (5, .int (iI (i))), (4, .ref (oD)), (3, .ref (o)), (2, .ref (am 0)), (1, .ref (ad 0 0)), (0, .ref (b))]) (by first | rfl | simp [cat_rf, cat_i, cat_l, cat_r]) ?_
    refine j_aload_n X dL_law_1038 (q := 1039) rfl 4 rfl ?_
    refine j_aload_n X dL_law_1039 (q := 1040) rfl 6 rfl ?_
    refine j_iload X dL_law_1040 (q := 1042) rfl 1 rfl ?_
    refine j_iconst X (a := 1) dL_law_1042 (q := 1043) rfl ?_
    refine j_iadd X dL_law_1043 (q := 1044) rfl ?_
    refine j_sld X hX hbl hbA (by omega) (by omega) dL_law_1044 (q := 1045) rfl ?_
    rw [e1z]
    refine j_callV X (As := [.int (iI (z1))]) (st := []) hMb.obj rfl (c_X4_driftsOut hlt hMb hMI z1 hz1) sv_L_146 (by decide) rfl (by first | decide | exact Nat.le_of_ble_eq_true rfl) dL_law_1045 ⟨by show _ ≤ 601024; omega, by show _ ≤ 7293034; omega⟩ (fun _ _ h => h.elim) ?_
    rintro v9 w8 ⟨rfl, hM8, hF8⟩
    refine j_st (st := [.int (iI ((if 0 ≤ z1 ∧ z1 < ni then (if 0 < T 8 z1 then drF (oM T z1) 10000 0 else -1) else -1 : Int)))]) ?_
    have hm0 : (if 0 ≤ z1 ∧ z1 < ni then 0 else 1 : Int) = 0 := hcq.trans hz0
    have hans : (if 0 ≤ z1 ∧ z1 < ni then (if 0 < T 8 z1 then drF (oM T z1) 10000 0 else -1) else -1 : Int) = drS S z1 := by
      have hk9 := ak_0 hz0
      rw [if_pos hk9]
      exact hS.dr hk9.1 hk9.2
    rw [hans]
    rw [hcq] at hM8
    have hC8 := hCb.fr (c := 1) (by decide) hF8
    have ho8 := hF8 _ _ hob (by show (2 : Nat) ≠ 1; decide)
    have hoD8 := hF8 _ _ hoDb (by show (2 : Nat) ≠ 1; decide)
    refine j_istore X (i := 7) dL_law_1048 (by decide) (q := 1050) rfl (lv' := [(7, .int (iI (drS S z1))), (6, .int (iI (akC ni z1))), (5, .int (iI (i))), (4, .ref (oD)), (3, .ref (o)), (2, .ref (am 0)), (1, .ref (ad 0 0)), (0, .ref (b))]) (by first | rfl | simp [cat_rf, cat_i, cat_l, cat_r]) ?_
    refine j_aload_n X dL_law_1050 (q := 1051) rfl 5 rfl ?_
    refine j_callV X (As := []) (st := []) hM8.obj rfl (c_X4_thrown0 hlt hM8) sv_L_92 (by decide) rfl (by decide) dL_law_1051 ⟨by show _ ≤ 601024; omega, by show _ ≤ 7293034; omega⟩ (fun _ _ h => h.elim) ?_
    rintro v7 w7 ⟨rfl, rfl⟩
    refine j_st (st := [.int (iI (akC ni z1))]) ?_
    refine j_iload X dL_law_1054 (q := 1056) rfl 1 rfl ?_
    refine j_icmp_eq X (tgt := 1061) dL_law_1056 (by decide) (q := 1059) rfl (by omega) (by omega) (fun c_1056 => ?_) (fun c_1056 => ?_)
    · skip
      refine j_iload X dL_law_1061 (q := 1063) rfl 1 rfl ?_
      refine j_if_ne X (tgt := 1078) dL_law_1063 (by decide) (q := 1066) rfl (by omega) (fun c_1063 => ?_) (fun c_1063 => ?_)
      · skip
        exact absurd hz0 c_1063
      · skip
        refine j_aload_n X dL_law_1066 (q := 1067) rfl 4 rfl ?_
        refine j_iconst X (a := 0) dL_law_1067 (q := 1068) rfl ?_
        refine j_lald X ho8 ⟨by decide, by decide⟩ (by decide) dL_law_1068 (q := 1069) rfl ?_
        rw [show f9 (Int.toNat 0) = (iI (drS S z1)).toInt64 from hf9]
        refine j_iload X dL_law_1069 (q := 1071) rfl 0 rfl ?_
        refine j_i2lR X dL_law_1071 (q := 1072) rfl ?_
        refine j_lcmpE X dL_law_1072 (q := 1073) rfl ?_
        refine j_if_eq X (tgt := 1078) dL_law_1073 (by decide) (q := 1076) rfl (by omega) (fun c_1073 => ?_) (fun c_1073 => ?_)
        · skip
          refine j_goto X (tgt := 1475) dL_law_1078 (by decide) ?_
          exact j_lv (nx _ _ _ ⟨ni, nc, nm, S, T, ad, am, _, f9, g, hS.le (by omega) (by omega), hC8, hM8, ⟨ho8, hoD8⟩, rfl, rfl, by omega, by omega⟩) [2, 3, 4, 5, 6, 7] rfl
        · skip
          exact absurd rfl c_1073
    · skip
      exact absurd rfl c_1056
  · skip
    obtain rfl := hE hz0
    have hCb := hC
    have hMb := hM
    have hob := ho
    have hoDb := hoD
    refine j_istore X (i := 6) dL_law_1036 (by decide) (q := 1038) rfl (lv' := [(6, .int (iI (akC ni z1))), (5, .int (iI (i))), (4, .ref (oD)), (3, .ref (o)), (2, .ref (am 0)), (1, .ref (ad 0 0)), (0, .ref (b))]) (by first | rfl | simp [cat_rf, cat_i, cat_l, cat_r]) ?_
    refine j_aload_n X dL_law_1038 (q := 1039) rfl 4 rfl ?_
    refine j_aload_n X dL_law_1039 (q := 1040) rfl 6 rfl ?_
    refine j_iload X dL_law_1040 (q := 1042) rfl 1 rfl ?_
    refine j_iconst X (a := 1) dL_law_1042 (q := 1043) rfl ?_
    refine j_iadd X dL_law_1043 (q := 1044) rfl ?_
    refine j_sld X hX hbl hbA (by omega) (by omega) dL_law_1044 (q := 1045) rfl ?_
    rw [e1z]
    refine j_callV X (As := [.int (iI (z1))]) (st := []) hMb.obj rfl (c_X4_driftsOut hlt hMb hMI z1 hz1) sv_L_146 (by decide) rfl (by first | decide | exact Nat.le_of_ble_eq_true rfl) dL_law_1045 ⟨by show _ ≤ 601024; omega, by show _ ≤ 7293034; omega⟩ (fun _ _ h => h.elim) ?_
    rintro v9 w8 ⟨rfl, hM8, hF8⟩
    refine j_st (st := [.int (iI ((if 0 ≤ z1 ∧ z1 < ni then (if 0 < T 8 z1 then drF (oM T z1) 10000 0 else -1) else -1 : Int)))]) ?_
    have hm1 : (if 0 ≤ z1 ∧ z1 < ni then 0 else 1 : Int) ≠ 0 := fun q => hz0 (hcq.symm.trans q)
    rw [hcq] at hM8
    have hC8 := hCb.fr (c := 1) (by decide) hF8
    have ho8 := hF8 _ _ hob (by show (2 : Nat) ≠ 1; decide)
    have hoD8 := hF8 _ _ hoDb (by show (2 : Nat) ≠ 1; decide)
    refine j_istore X (i := 7) dL_law_1048 (by decide) (q := 1050) rfl (lv' := [(7, .int (iI ((if 0 ≤ z1 ∧ z1 < ni then (if 0 < T 8 z1 then drF (oM T z1) 10000 0 else -1) else -1 : Int)))), (6, .int (iI (akC ni z1))), (5, .int (iI (i))), (4, .ref (oD)), (3, .ref (o)), (2, .ref (am 0)), (1, .ref (ad 0 0)), (0, .ref (b))]) (by first | rfl | simp [cat_rf, cat_i, cat_l, cat_r]) ?_
    refine j_aload_n X dL_law_1050 (q := 1051) rfl 5 rfl ?_
    refine j_callV X (As := []) (st := []) hM8.obj rfl (c_X4_thrown0 hlt hM8) sv_L_92 (by decide) rfl (by decide) dL_law_1051 ⟨by show _ ≤ 601024; omega, by show _ ≤ 7293034; omega⟩ (fun _ _ h => h.elim) ?_
    rintro v7 w7 ⟨rfl, rfl⟩
    refine j_st (st := [.int (iI (akC ni z1))]) ?_
    refine j_iload X dL_law_1054 (q := 1056) rfl 1 rfl ?_
    refine j_icmp_eq X (tgt := 1061) dL_law_1056 (by decide) (q := 1059) rfl (by omega) (by omega) (fun c_1056 => ?_) (fun c_1056 => ?_)
    · skip
      refine j_iload X dL_law_1061 (q := 1063) rfl 1 rfl ?_
      refine j_if_ne X (tgt := 1078) dL_law_1063 (by decide) (q := 1066) rfl (by omega) (fun c_1063 => ?_) (fun c_1063 => ?_)
      · skip
        refine j_goto X (tgt := 1475) dL_law_1078 (by decide) ?_
        exact j_lv (nx _ _ _ ⟨ni, nc, nm, S, T, ad, am, _, f, g, hS.le (by omega) (by omega), hC8, hM8, ⟨ho8, hoD8⟩, rfl, rfl, by omega, by omega⟩) [2, 3, 4, 5, 6, 7] rfl
      · skip
        exact absurd c_1063 hz0
    · skip
      exact absurd rfl c_1056

set_option maxRecDepth 100000 in
set_option maxHeartbeats 4000000 in
theorem case_16 (X : Cx p l s m args meth cd ⟨RL, mn, ""⟩ code 9 ret D ca base) (hlt : l.stackTraces = false) {b L : Nat} {xs : Nat → Int32} (hX : va_X b L xs s s.heap) (hbl : b < s.heap.size) (hbA : ¬ base ≤ b) (hL : L ≤ 2560) {i c : Int} (hi : 0 ≤ i ∧ i + 5 ≤ L) (hc : 0 ≤ c ∧ c ≤ 511) {o oD ax ay : Nat} (hbo : base ≤ o) (hbD : base ≤ oD) (hLI : LI base ca ax ay o oD c k n w) (nx : ∀ (k' n' : Nat) (w' : Wd), LI base ca ax ay o oD (c + 1) k' n' w' → J p l e room_1 s m args below meth cd Q D base 9 k' n' 1475 [(5, .int (iI (i))), (4, .ref (oD)), (3, .ref (o)), (2, .ref (ay)), (1, .ref (ax)), (0, .ref (b))] [] w') : J p l e room_1 s m args below meth cd Q D base 9 k n 1081 [(5, .int (iI (i))), (4, .ref (oD)), (3, .ref (o)), (2, .ref (ay)), (1, .ref (ax)), (0, .ref (b))] [] w := by
  obtain ⟨ni, nc, nm, S, T, ad, am, th, f, g, hS, hC, hM, ⟨ho, hoD⟩, rfl, rfl, hk, hn⟩ := hLI
  have hMI := hS.MI hc.2
  have hIC := hS.1
  obtain ⟨hn0, hnc0, hnm0, e3, e4, e5, -, e7, e8⟩ := hIC.top
  obtain ⟨z1, e1z, hz1⟩ := i32 (xs (i + 1).toNat)
  have hcq : (if 0 ≤ z1 ∧ z1 < ni then 0 else 1 : Int) = akC ni z1 := rfl
  have hcb : 0 ≤ akC ni z1 ∧ akC ni z1 ≤ 3 := by unfold akC; (repeat' split) <;> omega
  refine j_aload_n X dL_law_1081 (q := 1082) rfl 4 rfl ?_
  refine j_aload_n X dL_law_1082 (q := 1083) rfl 5 rfl ?_
  refine j_iload X dL_law_1083 (q := 1085) rfl 0 rfl ?_
  refine j_iconst X (a := 1) dL_law_1085 (q := 1086) rfl ?_
  refine j_iadd X dL_law_1086 (q := 1087) rfl ?_
  refine j_sld X hX hbl hbA (by omega) (by omega) dL_law_1087 (q := 1088) rfl ?_
  rw [e1z]
  refine j_aload_n X dL_law_1088 (q := 1089) rfl 2 rfl ?_
  refine j_callW X (As := [.ref (ad 0 0), .int (iI (z1)), .ref (o)]) (st := []) (c_L_uncertainty hlt hC hIC o f ho hbo z1 hz1) sw_L_147 (by decide) rfl (by decide) dL_law_1089 ⟨by show _ ≤ 601024; omega, by show _ ≤ 7293034; omega⟩ ?_
  rintro v9 w9 ⟨rfl, hN, hE⟩
  refine j_st (st := [.int (iI (akC ni z1))]) ?_
  rcases Classical.em (akC ni z1 = 0) with hz0 | hz0
  · skip
    obtain ⟨f9, hf9, rfl⟩ := hN hz0
    have hw1 : Fr 0 w w := Fr.rf
    have hC1 := hC
    have hM1 := hM.fr (c := 0) (by decide) hw1
    have ho1 := hw1 _ _ ho (by show (2 : Nat) ≠ 0; decide)
    have hoD1 := hw1 _ _ hoD (by show (2 : Nat) ≠ 0; decide)
    have hFs : Fr 2 w (wu w o (eLong ca f9)) := Fr.set ho1 rfl
    have hCb := hC1.fr (c := 2) (by decide) hFs
    have hMb := hM1.fr (c := 2) (by decide) hFs
    have hwn : (wu w o (eLong ca f9)) o = some (eLong ca f9) := wu_s
    have hoDb : (wu w o (eLong ca f9)) oD = some (eDbl ca g) := (wu_n (ne_of_cell hoD1 ho1 e_DL)).trans hoD1
    have hob := hwn
    generalize (wu w o (eLong ca f9)) = wb at hCb hMb hob hoDb ⊢
    refine j_istore X (i := 6) dL_law_1092 (by decide) (q := 1094) rfl (lv' := [(6, .int (iI (akC ni z1))), (5, .int (iI (i))), (4, .ref (oD)), (3, .ref (o)), (2, .ref (am 0)), (1, .ref (ad 0 0)), (0, .ref (b))]) (by first | rfl | simp [cat_rf, cat_i, cat_l, cat_r]) ?_
    refine j_aload_n X dL_law_1094 (q := 1095) rfl 4 rfl ?_
    refine j_aload_n X dL_law_1095 (q := 1096) rfl 6 rfl ?_
    refine j_iload X dL_law_1096 (q := 1098) rfl 1 rfl ?_
    refine j_iconst X (a := 1) dL_law_1098 (q := 1099) rfl ?_
    refine j_iadd X dL_law_1099 (q := 1100) rfl ?_
    refine j_sld X hX hbl hbA (by omega) (by omega) dL_law_1100 (q := 1101) rfl ?_
    rw [e1z]
    refine j_callV X (As := [.int (iI (z1))]) (st := []) hMb.obj rfl (c_X4_uncertainty hlt hMb hMI z1 hz1) sv_L_149 (by decide) rfl (by first | decide | exact Nat.le_of_ble_eq_true rfl) dL_law_1101 ⟨by show _ ≤ 601024; omega, by show _ ≤ 7293034; omega⟩ (fun _ _ h => h.elim) ?_
    rintro v9 w8 ⟨rfl, hM8, hF8⟩
    refine j_st (st := [.int (iI ((if 0 ≤ z1 ∧ z1 < ni then unc (T 4) (T 6) 12 z1 else 0 : Int)))]) ?_
    have hm0 : (if 0 ≤ z1 ∧ z1 < ni then 0 else 1 : Int) = 0 := hcq.trans hz0
    have hans : (if 0 ≤ z1 ∧ z1 < ni then unc (T 4) (T 6) 12 z1 else 0 : Int) = unc (S 14) (S 12) 12 z1 := by
      have hk9 := ak_0 hz0
      rw [if_pos hk9]
      exact hS.unc hk9.2
    rw [hans]
    rw [hcq] at hM8
    have hC8 := hCb.fr (c := 1) (by decide) hF8
    have ho8 := hF8 _ _ hob (by show (2 : Nat) ≠ 1; decide)
    have hoD8 := hF8 _ _ hoDb (by show (2 : Nat) ≠ 1; decide)
    refine j_istore X (i := 7) dL_law_1104 (by decide) (q := 1106) rfl (lv' := [(7, .int (iI (unc (S 14) (S 12) 12 z1))), (6, .int (iI (akC ni z1))), (5, .int (iI (i))), (4, .ref (oD)), (3, .ref (o)), (2, .ref (am 0)), (1, .ref (ad 0 0)), (0, .ref (b))]) (by first | rfl | simp [cat_rf, cat_i, cat_l, cat_r]) ?_
    refine j_aload_n X dL_law_1106 (q := 1107) rfl 5 rfl ?_
    refine j_callV X (As := []) (st := []) hM8.obj rfl (c_X4_thrown0 hlt hM8) sv_L_92 (by decide) rfl (by decide) dL_law_1107 ⟨by show _ ≤ 601024; omega, by show _ ≤ 7293034; omega⟩ (fun _ _ h => h.elim) ?_
    rintro v7 w7 ⟨rfl, rfl⟩
    refine j_st (st := [.int (iI (akC ni z1))]) ?_
    refine j_iload X dL_law_1110 (q := 1112) rfl 1 rfl ?_
    refine j_icmp_eq X (tgt := 1117) dL_law_1112 (by decide) (q := 1115) rfl (by omega) (by omega) (fun c_1112 => ?_) (fun c_1112 => ?_)
    · skip
      refine j_iload X dL_law_1117 (q := 1119) rfl 1 rfl ?_
      refine j_if_ne X (tgt := 1134) dL_law_1119 (by decide) (q := 1122) rfl (by omega) (fun c_1119 => ?_) (fun c_1119 => ?_)
      · skip
        exact absurd hz0 c_1119
      · skip
        refine j_aload_n X dL_law_1122 (q := 1123) rfl 4 rfl ?_
        refine j_iconst X (a := 0) dL_law_1123 (q := 1124) rfl ?_
        refine j_lald X ho8 ⟨by decide, by decide⟩ (by decide) dL_law_1124 (q := 1125) rfl ?_
        rw [show f9 (Int.toNat 0) = (iI (unc (S 14) (S 12) 12 z1)).toInt64 from hf9]
        refine j_iload X dL_law_1125 (q := 1127) rfl 0 rfl ?_
        refine j_i2lR X dL_law_1127 (q := 1128) rfl ?_
        refine j_lcmpE X dL_law_1128 (q := 1129) rfl ?_
        refine j_if_eq X (tgt := 1134) dL_law_1129 (by decide) (q := 1132) rfl (by omega) (fun c_1129 => ?_) (fun c_1129 => ?_)
        · skip
          refine j_goto X (tgt := 1475) dL_law_1134 (by decide) ?_
          exact j_lv (nx _ _ _ ⟨ni, nc, nm, S, T, ad, am, _, f9, g, hS.le (by omega) (by omega), hC8, hM8, ⟨ho8, hoD8⟩, rfl, rfl, by omega, by omega⟩) [2, 3, 4, 5, 6, 7] rfl
        · skip
          exact absurd rfl c_1129
    · skip
      exact absurd rfl c_1112
  · skip
    obtain rfl := hE hz0
    have hCb := hC
    have hMb := hM
    have hob := ho
    have hoDb := hoD
    refine j_istore X (i := 6) dL_law_1092 (by decide) (q := 1094) rfl (lv' := [(6, .int (iI (akC ni z1))), (5, .int (iI (i))), (4, .ref (oD)), (3, .ref (o)), (2, .ref (am 0)), (1, .ref (ad 0 0)), (0, .ref (b))]) (by first | rfl | simp [cat_rf, cat_i, cat_l, cat_r]) ?_
    refine j_aload_n X dL_law_1094 (q := 1095) rfl 4 rfl ?_
    refine j_aload_n X dL_law_1095 (q := 1096) rfl 6 rfl ?_
    refine j_iload X dL_law_1096 (q := 1098) rfl 1 rfl ?_
    refine j_iconst X (a := 1) dL_law_1098 (q := 1099) rfl ?_
    refine j_iadd X dL_law_1099 (q := 1100) rfl ?_
    refine j_sld X hX hbl hbA (by omega) (by omega) dL_law_1100 (q := 1101) rfl ?_
    rw [e1z]
    refine j_callV X (As := [.int (iI (z1))]) (st := []) hMb.obj rfl (c_X4_uncertainty hlt hMb hMI z1 hz1) sv_L_149 (by decide) rfl (by first | decide | exact Nat.le_of_ble_eq_true rfl) dL_law_1101 ⟨by show _ ≤ 601024; omega, by show _ ≤ 7293034; omega⟩ (fun _ _ h => h.elim) ?_
    rintro v9 w8 ⟨rfl, hM8, hF8⟩
    refine j_st (st := [.int (iI ((if 0 ≤ z1 ∧ z1 < ni then unc (T 4) (T 6) 12 z1 else 0 : Int)))]) ?_
    have hm1 : (if 0 ≤ z1 ∧ z1 < ni then 0 else 1 : Int) ≠ 0 := fun q => hz0 (hcq.symm.trans q)
    rw [hcq] at hM8
    have hC8 := hCb.fr (c := 1) (by decide) hF8
    have ho8 := hF8 _ _ hob (by show (2 : Nat) ≠ 1; decide)
    have hoD8 := hF8 _ _ hoDb (by show (2 : Nat) ≠ 1; decide)
    refine j_istore X (i := 7) dL_law_1104 (by decide) (q := 1106) rfl (lv' := [(7, .int (iI ((if 0 ≤ z1 ∧ z1 < ni then unc (T 4) (T 6) 12 z1 else 0 : Int)))), (6, .int (iI (akC ni z1))), (5, .int (iI (i))), (4, .ref (oD)), (3, .ref (o)), (2, .ref (am 0)), (1, .ref (ad 0 0)), (0, .ref (b))]) (by first | rfl | simp [cat_rf, cat_i, cat_l, cat_r]) ?_
    refine j_aload_n X dL_law_1106 (q := 1107) rfl 5 rfl ?_
    refine j_callV X (As := []) (st := []) hM8.obj rfl (c_X4_thrown0 hlt hM8) sv_L_92 (by decide) rfl (by decide) dL_law_1107 ⟨by show _ ≤ 601024; omega, by show _ ≤ 7293034; omega⟩ (fun _ _ h => h.elim) ?_
    rintro v7 w7 ⟨rfl, rfl⟩
    refine j_st (st := [.int (iI (akC ni z1))]) ?_
    refine j_iload X dL_law_1110 (q := 1112) rfl 1 rfl ?_
    refine j_icmp_eq X (tgt := 1117) dL_law_1112 (by decide) (q := 1115) rfl (by omega) (by omega) (fun c_1112 => ?_) (fun c_1112 => ?_)
    · skip
      refine j_iload X dL_law_1117 (q := 1119) rfl 1 rfl ?_
      refine j_if_ne X (tgt := 1134) dL_law_1119 (by decide) (q := 1122) rfl (by omega) (fun c_1119 => ?_) (fun c_1119 => ?_)
      · skip
        refine j_goto X (tgt := 1475) dL_law_1134 (by decide) ?_
        exact j_lv (nx _ _ _ ⟨ni, nc, nm, S, T, ad, am, _, f, g, hS.le (by omega) (by omega), hC8, hM8, ⟨ho8, hoD8⟩, rfl, rfl, by omega, by omega⟩) [2, 3, 4, 5, 6, 7] rfl
      · skip
        exact absurd c_1119 hz0
    · skip
      exact absurd rfl c_1112

set_option maxRecDepth 100000 in
set_option maxHeartbeats 4000000 in
theorem case_17 (X : Cx p l s m args meth cd ⟨RL, mn, ""⟩ code 9 ret D ca base) (hlt : l.stackTraces = false) {b L : Nat} {xs : Nat → Int32} (hX : va_X b L xs s s.heap) (hbl : b < s.heap.size) (hbA : ¬ base ≤ b) (hL : L ≤ 2560) {i c : Int} (hi : 0 ≤ i ∧ i + 5 ≤ L) (hc : 0 ≤ c ∧ c ≤ 511) {o oD ax ay : Nat} (hbo : base ≤ o) (hbD : base ≤ oD) (hLI : LI base ca ax ay o oD c k n w) (nx : ∀ (k' n' : Nat) (w' : Wd), LI base ca ax ay o oD (c + 1) k' n' w' → J p l e room_1 s m args below meth cd Q D base 9 k' n' 1475 [(5, .int (iI (i))), (4, .ref (oD)), (3, .ref (o)), (2, .ref (ay)), (1, .ref (ax)), (0, .ref (b))] [] w') : J p l e room_1 s m args below meth cd Q D base 9 k n 1137 [(5, .int (iI (i))), (4, .ref (oD)), (3, .ref (o)), (2, .ref (ay)), (1, .ref (ax)), (0, .ref (b))] [] w := by
  obtain ⟨ni, nc, nm, S, T, ad, am, th, f, g, hS, hC, hM, ⟨ho, hoD⟩, rfl, rfl, hk, hn⟩ := hLI
  have hMI := hS.MI hc.2
  have hIC := hS.1
  obtain ⟨hn0, hnc0, hnm0, e3, e4, e5, -, e7, e8⟩ := hIC.top
  obtain ⟨z1, e1z, hz1⟩ := i32 (xs (i + 1).toNat)
  have hcq : (if 0 ≤ z1 ∧ z1 < ni then 0 else 1 : Int) = akC ni z1 := rfl
  have hcb : 0 ≤ akC ni z1 ∧ akC ni z1 ≤ 3 := by unfold akC; (repeat' split) <;> omega
  refine j_aload_n X dL_law_1137 (q := 1138) rfl 4 rfl ?_
  refine j_aload_n X dL_law_1138 (q := 1139) rfl 5 rfl ?_
  refine j_iload X dL_law_1139 (q := 1141) rfl 0 rfl ?_
  refine j_iconst X (a := 1) dL_law_1141 (q := 1142) rfl ?_
  refine j_iadd X dL_law_1142 (q := 1143) rfl ?_
  refine j_sld X hX hbl hbA (by omega) (by omega) dL_law_1143 (q := 1144) rfl ?_
  rw [e1z]
  refine j_aload_n X dL_law_1144 (q := 1145) rfl 2 rfl ?_
  refine j_callW X (As := [.ref (ad 0 0), .int (iI (z1)), .ref (o)]) (st := []) (c_L_limit hlt hC hIC o f ho hbo z1 hz1) sw_L_150 (by decide) rfl (by decide) dL_law_1145 ⟨by show _ ≤ 601024; omega, by show _ ≤ 7293034; omega⟩ ?_
  rintro v9 w9 ⟨rfl, hN, hE⟩
  refine j_st (st := [.int (iI (akC ni z1))]) ?_
  rcases Classical.em (akC ni z1 = 0) with hz0 | hz0
  · skip
    obtain ⟨f9, hf9, rfl⟩ := hN hz0
    have hw1 : Fr 0 w w := Fr.rf
    have hC1 := hC
    have hM1 := hM.fr (c := 0) (by decide) hw1
    have ho1 := hw1 _ _ ho (by show (2 : Nat) ≠ 0; decide)
    have hoD1 := hw1 _ _ hoD (by show (2 : Nat) ≠ 0; decide)
    have hFs : Fr 2 w (wu w o (eLong ca f9)) := Fr.set ho1 rfl
    have hCb := hC1.fr (c := 2) (by decide) hFs
    have hMb := hM1.fr (c := 2) (by decide) hFs
    have hwn : (wu w o (eLong ca f9)) o = some (eLong ca f9) := wu_s
    have hoDb : (wu w o (eLong ca f9)) oD = some (eDbl ca g) := (wu_n (ne_of_cell hoD1 ho1 e_DL)).trans hoD1
    have hob := hwn
    generalize (wu w o (eLong ca f9)) = wb at hCb hMb hob hoDb ⊢
    refine j_istore X (i := 6) dL_law_1148 (by decide) (q := 1150) rfl (lv' := [(6, .int (iI (akC ni z1))), (5, .int (iI (i))), (4, .ref (oD)), (3, .ref (o)), (2, .ref (am 0)), (1, .ref (ad 0 0)), (0, .ref (b))]) (by first | rfl | simp [cat_rf, cat_i, cat_l, cat_r]) ?_
    refine j_aload_n X dL_law_1150 (q := 1151) rfl 4 rfl ?_
    refine j_aload_n X dL_law_1151 (q := 1152) rfl 6 rfl ?_
    refine j_iload X dL_law_1152 (q := 1154) rfl 1 rfl ?_
    refine j_iconst X (a := 1) dL_law_1154 (q := 1155) rfl ?_
    refine j_iadd X dL_law_1155 (q := 1156) rfl ?_
    refine j_sld X hX hbl hbA (by omega) (by omega) dL_law_1156 (q := 1157) rfl ?_
    rw [e1z]
    refine j_callV X (As := [.int (iI (z1))]) (st := []) hMb.obj rfl (c_X4_limit hlt hMb hMI z1 hz1) sv_L_152 (by decide) rfl (by first | decide | exact Nat.le_of_ble_eq_true rfl) dL_law_1157 ⟨by show _ ≤ 601024; omega, by show _ ≤ 7293034; omega⟩ (fun _ _ h => h.elim) ?_
    rintro v9 w8 ⟨rfl, hM8, hF8⟩
    refine j_st (st := [.int (iI ((if 0 ≤ z1 ∧ z1 < ni then (if T 5 z1 - unc (T 4) (T 6) 12 z1 < 0 then 0 else T 5 z1 - unc (T 4) (T 6) 12 z1) else 0 : Int)))]) ?_
    have hm0 : (if 0 ≤ z1 ∧ z1 < ni then 0 else 1 : Int) = 0 := hcq.trans hz0
    have hans : (if 0 ≤ z1 ∧ z1 < ni then (if T 5 z1 - unc (T 4) (T 6) 12 z1 < 0 then 0 else T 5 z1 - unc (T 4) (T 6) 12 z1) else 0 : Int) = if 0 < S 11 z1 - unc (S 14) (S 12) 12 z1 then S 11 z1 - unc (S 14) (S 12) 12 z1 else 0 := by
      have hk9 := ak_0 hz0
      rw [if_pos hk9]
      rw [hS.unc hk9.2, (hS.col hk9.1 hk9.2).2.1]
      split <;> split <;> omega
    rw [hans]
    rw [hcq] at hM8
    have hC8 := hCb.fr (c := 1) (by decide) hF8
    have ho8 := hF8 _ _ hob (by show (2 : Nat) ≠ 1; decide)
    have hoD8 := hF8 _ _ hoDb (by show (2 : Nat) ≠ 1; decide)
    refine j_istore X (i := 7) dL_law_1160 (by decide) (q := 1162) rfl (lv' := [(7, .int (iI (if 0 < S 11 z1 - unc (S 14) (S 12) 12 z1 then S 11 z1 - unc (S 14) (S 12) 12 z1 else 0))), (6, .int (iI (akC ni z1))), (5, .int (iI (i))), (4, .ref (oD)), (3, .ref (o)), (2, .ref (am 0)), (1, .ref (ad 0 0)), (0, .ref (b))]) (by first | rfl | simp [cat_rf, cat_i, cat_l, cat_r]) ?_
    refine j_aload_n X dL_law_1162 (q := 1163) rfl 5 rfl ?_
    refine j_callV X (As := []) (st := []) hM8.obj rfl (c_X4_thrown0 hlt hM8) sv_L_92 (by decide) rfl (by decide) dL_law_1163 ⟨by show _ ≤ 601024; omega, by show _ ≤ 7293034; omega⟩ (fun _ _ h => h.elim) ?_
    rintro v7 w7 ⟨rfl, rfl⟩
    refine j_st (st := [.int (iI (akC ni z1))]) ?_
    refine j_iload X dL_law_1166 (q := 1168) rfl 1 rfl ?_
    refine j_icmp_eq X (tgt := 1173) dL_law_1168 (by decide) (q := 1171) rfl (by omega) (by omega) (fun c_1168 => ?_) (fun c_1168 => ?_)
    · skip
      refine j_iload X dL_law_1173 (q := 1175) rfl 1 rfl ?_
      refine j_if_ne X (tgt := 1190) dL_law_1175 (by decide) (q := 1178) rfl (by omega) (fun c_1175 => ?_) (fun c_1175 => ?_)
      · skip
        exact absurd hz0 c_1175
      · skip
        refine j_aload_n X dL_law_1178 (q := 1179) rfl 4 rfl ?_
        refine j_iconst X (a := 0) dL_law_1179 (q := 1180) rfl ?_
        refine j_lald X ho8 ⟨by decide, by decide⟩ (by decide) dL_law_1180 (q := 1181) rfl ?_
        rw [show f9 (Int.toNat 0) = (iI (if 0 < S 11 z1 - unc (S 14) (S 12) 12 z1 then S 11 z1 - unc (S 14) (S 12) 12 z1 else 0)).toInt64 from hf9]
        refine j_iload X dL_law_1181 (q := 1183) rfl 0 rfl ?_
        refine j_i2lR X dL_law_1183 (q := 1184) rfl ?_
        refine j_lcmpE X dL_law_1184 (q := 1185) rfl ?_
        refine j_if_eq X (tgt := 1190) dL_law_1185 (by decide) (q := 1188) rfl (by omega) (fun c_1185 => ?_) (fun c_1185 => ?_)
        · skip
          refine j_goto X (tgt := 1475) dL_law_1190 (by decide) ?_
          exact j_lv (nx _ _ _ ⟨ni, nc, nm, S, T, ad, am, _, f9, g, hS.le (by omega) (by omega), hC8, hM8, ⟨ho8, hoD8⟩, rfl, rfl, by omega, by omega⟩) [2, 3, 4, 5, 6, 7] rfl
        · skip
          exact absurd rfl c_1185
    · skip
      exact absurd rfl c_1168
  · skip
    obtain rfl := hE hz0
    have hCb := hC
    have hMb := hM
    have hob := ho
    have hoDb := hoD
    refine j_istore X (i := 6) dL_law_1148 (by decide) (q := 1150) rfl (lv' := [(6, .int (iI (akC ni z1))), (5, .int (iI (i))), (4, .ref (oD)), (3, .ref (o)), (2, .ref (am 0)), (1, .ref (ad 0 0)), (0, .ref (b))]) (by first | rfl | simp [cat_rf, cat_i, cat_l, cat_r]) ?_
    refine j_aload_n X dL_law_1150 (q := 1151) rfl 4 rfl ?_
    refine j_aload_n X dL_law_1151 (q := 1152) rfl 6 rfl ?_
    refine j_iload X dL_law_1152 (q := 1154) rfl 1 rfl ?_
    refine j_iconst X (a := 1) dL_law_1154 (q := 1155) rfl ?_
    refine j_iadd X dL_law_1155 (q := 1156) rfl ?_
    refine j_sld X hX hbl hbA (by omega) (by omega) dL_law_1156 (q := 1157) rfl ?_
    rw [e1z]
    refine j_callV X (As := [.int (iI (z1))]) (st := []) hMb.obj rfl (c_X4_limit hlt hMb hMI z1 hz1) sv_L_152 (by decide) rfl (by first | decide | exact Nat.le_of_ble_eq_true rfl) dL_law_1157 ⟨by show _ ≤ 601024; omega, by show _ ≤ 7293034; omega⟩ (fun _ _ h => h.elim) ?_
    rintro v9 w8 ⟨rfl, hM8, hF8⟩
    refine j_st (st := [.int (iI ((if 0 ≤ z1 ∧ z1 < ni then (if T 5 z1 - unc (T 4) (T 6) 12 z1 < 0 then 0 else T 5 z1 - unc (T 4) (T 6) 12 z1) else 0 : Int)))]) ?_
    have hm1 : (if 0 ≤ z1 ∧ z1 < ni then 0 else 1 : Int) ≠ 0 := fun q => hz0 (hcq.symm.trans q)
    rw [hcq] at hM8
    have hC8 := hCb.fr (c := 1) (by decide) hF8
    have ho8 := hF8 _ _ hob (by show (2 : Nat) ≠ 1; decide)
    have hoD8 := hF8 _ _ hoDb (by show (2 : Nat) ≠ 1; decide)
    refine j_istore X (i := 7) dL_law_1160 (by decide) (q := 1162) rfl (lv' := [(7, .int (iI ((if 0 ≤ z1 ∧ z1 < ni then (if T 5 z1 - unc (T 4) (T 6) 12 z1 < 0 then 0 else T 5 z1 - unc (T 4) (T 6) 12 z1) else 0 : Int)))), (6, .int (iI (akC ni z1))), (5, .int (iI (i))), (4, .ref (oD)), (3, .ref (o)), (2, .ref (am 0)), (1, .ref (ad 0 0)), (0, .ref (b))]) (by first | rfl | simp [cat_rf, cat_i, cat_l, cat_r]) ?_
    refine j_aload_n X dL_law_1162 (q := 1163) rfl 5 rfl ?_
    refine j_callV X (As := []) (st := []) hM8.obj rfl (c_X4_thrown0 hlt hM8) sv_L_92 (by decide) rfl (by decide) dL_law_1163 ⟨by show _ ≤ 601024; omega, by show _ ≤ 7293034; omega⟩ (fun _ _ h => h.elim) ?_
    rintro v7 w7 ⟨rfl, rfl⟩
    refine j_st (st := [.int (iI (akC ni z1))]) ?_
    refine j_iload X dL_law_1166 (q := 1168) rfl 1 rfl ?_
    refine j_icmp_eq X (tgt := 1173) dL_law_1168 (by decide) (q := 1171) rfl (by omega) (by omega) (fun c_1168 => ?_) (fun c_1168 => ?_)
    · skip
      refine j_iload X dL_law_1173 (q := 1175) rfl 1 rfl ?_
      refine j_if_ne X (tgt := 1190) dL_law_1175 (by decide) (q := 1178) rfl (by omega) (fun c_1175 => ?_) (fun c_1175 => ?_)
      · skip
        refine j_goto X (tgt := 1475) dL_law_1190 (by decide) ?_
        exact j_lv (nx _ _ _ ⟨ni, nc, nm, S, T, ad, am, _, f, g, hS.le (by omega) (by omega), hC8, hM8, ⟨ho8, hoD8⟩, rfl, rfl, by omega, by omega⟩) [2, 3, 4, 5, 6, 7] rfl
      · skip
        exact absurd c_1175 hz0
    · skip
      exact absurd rfl c_1168

set_option maxRecDepth 100000 in
set_option maxHeartbeats 4000000 in
theorem case_19 (X : Cx p l s m args meth cd ⟨RL, mn, ""⟩ code 9 ret D ca base) (hlt : l.stackTraces = false) {b L : Nat} {xs : Nat → Int32} (hX : va_X b L xs s s.heap) (hbl : b < s.heap.size) (hbA : ¬ base ≤ b) (hL : L ≤ 2560) {i c : Int} (hi : 0 ≤ i ∧ i + 5 ≤ L) (hc : 0 ≤ c ∧ c ≤ 511) {o oD ax ay : Nat} (hbo : base ≤ o) (hbD : base ≤ oD) (hLI : LI base ca ax ay o oD c k n w) (nx : ∀ (k' n' : Nat) (w' : Wd), LI base ca ax ay o oD (c + 1) k' n' w' → J p l e room_1 s m args below meth cd Q D base 9 k' n' 1475 [(5, .int (iI (i))), (4, .ref (oD)), (3, .ref (o)), (2, .ref (ay)), (1, .ref (ax)), (0, .ref (b))] [] w') : J p l e room_1 s m args below meth cd Q D base 9 k n 1206 [(5, .int (iI (i))), (4, .ref (oD)), (3, .ref (o)), (2, .ref (ay)), (1, .ref (ax)), (0, .ref (b))] [] w := by
  obtain ⟨ni, nc, nm, S, T, ad, am, th, f, g, hS, hC, hM, ⟨ho, hoD⟩, rfl, rfl, hk, hn⟩ := hLI
  have hMI := hS.MI hc.2
  have hIC := hS.1
  obtain ⟨hn0, hnc0, hnm0, e3, e4, e5, -, e7, e8⟩ := hIC.top
  obtain ⟨z1, e1z, hz1⟩ := i32 (xs (i + 1).toNat)
  have hcq : cbC nm z1 = cbC nm z1 := rfl
  have hcb : 0 ≤ cbC nm z1 ∧ cbC nm z1 ≤ 3 := by unfold cbC; (repeat' split) <;> omega
  refine j_aload_n X dL_law_1206 (q := 1207) rfl 4 rfl ?_
  refine j_aload_n X dL_law_1207 (q := 1208) rfl 5 rfl ?_
  refine j_iload X dL_law_1208 (q := 1210) rfl 0 rfl ?_
  refine j_iconst X (a := 1) dL_law_1210 (q := 1211) rfl ?_
  refine j_iadd X dL_law_1211 (q := 1212) rfl ?_
  refine j_sld X hX hbl hbA (by omega) (by omega) dL_law_1212 (q := 1213) rfl ?_
  rw [e1z]
  refine j_aload_n X dL_law_1213 (q := 1214) rfl 2 rfl ?_
  refine j_callW X (As := [.ref (ad 0 0), .int (iI (z1)), .ref (o)]) (st := []) (c_L_isCalledBack hlt hC hIC o f ho hbo z1 hz1) sw_L_157 (by decide) rfl (by decide) dL_law_1214 ⟨by show _ ≤ 601024; omega, by show _ ≤ 7293034; omega⟩ ?_
  rintro v9 w9 ⟨rfl, hN, hE⟩
  refine j_st (st := [.int (iI (cbC nm z1))]) ?_
  rcases Classical.em (cbC nm z1 = 0) with hz0 | hz0
  · skip
    obtain ⟨f9, hf9, rfl⟩ := hN hz0
    have hw1 : Fr 0 w w := Fr.rf
    have hC1 := hC
    have hM1 := hM.fr (c := 0) (by decide) hw1
    have ho1 := hw1 _ _ ho (by show (2 : Nat) ≠ 0; decide)
    have hoD1 := hw1 _ _ hoD (by show (2 : Nat) ≠ 0; decide)
    have hFs : Fr 2 w (wu w o (eLong ca f9)) := Fr.set ho1 rfl
    have hCb := hC1.fr (c := 2) (by decide) hFs
    have hMb := hM1.fr (c := 2) (by decide) hFs
    have hwn : (wu w o (eLong ca f9)) o = some (eLong ca f9) := wu_s
    have hoDb : (wu w o (eLong ca f9)) oD = some (eDbl ca g) := (wu_n (ne_of_cell hoD1 ho1 e_DL)).trans hoD1
    have hob := hwn
    generalize (wu w o (eLong ca f9)) = wb at hCb hMb hob hoDb ⊢
    refine j_istore X (i := 6) dL_law_1217 (by decide) (q := 1219) rfl (lv' := [(6, .int (iI (cbC nm z1))), (5, .int (iI (i))), (4, .ref (oD)), (3, .ref (o)), (2, .ref (am 0)), (1, .ref (ad 0 0)), (0, .ref (b))]) (by first | rfl | simp [cat_rf, cat_i, cat_l, cat_r]) ?_
    refine j_aload_n X dL_law_1219 (q := 1220) rfl 4 rfl ?_
    refine j_aload_n X dL_law_1220 (q := 1221) rfl 6 rfl ?_
    refine j_iload X dL_law_1221 (q := 1223) rfl 1 rfl ?_
    refine j_iconst X (a := 1) dL_law_1223 (q := 1224) rfl ?_
    refine j_iadd X dL_law_1224 (q := 1225) rfl ?_
    refine j_sld X hX hbl hbA (by omega) (by omega) dL_law_1225 (q := 1226) rfl ?_
    rw [e1z]
    refine j_callV X (As := [.int (iI (z1))]) (st := []) hMb.obj rfl (c_X4_isCalledBack hlt hMb hMI z1 hz1) sv_L_159 (by decide) rfl (by first | decide | exact Nat.le_of_ble_eq_true rfl) dL_law_1226 ⟨by show _ ≤ 601024; omega, by show _ ≤ 7293034; omega⟩ (fun _ _ h => h.elim) ?_
    rintro v9 w8 ⟨rfl, hM8, hF8⟩
    refine j_st (st := [.int (iI ((if cbC nm z1 = 0 then T 21 z1 else 0)))]) ?_
    have hm0 : cbC nm z1 = 0 := hcq.trans hz0
    have hk8 : 0 ≤ z1 ∧ z1 < nm := by unfold cbC at hz0; split at hz0; assumption; cases hz0
    obtain ⟨-, -, h32b⟩ := hIC.mea hk8.1 hk8.2
    have hans : (if cbC nm z1 = 0 then T 21 z1 else 0) = S 32 z1 := by rw [if_pos hz0]; exact (hS.cld hk8.1 hk8.2).1
    rw [hans]
    rw [hcq] at hM8
    have hC8 := hCb.fr (c := 1) (by decide) hF8
    have ho8 := hF8 _ _ hob (by show (2 : Nat) ≠ 1; decide)
    have hoD8 := hF8 _ _ hoDb (by show (2 : Nat) ≠ 1; decide)
    refine j_istore X (i := 7) dL_law_1229 (by decide) (q := 1231) rfl (lv' := [(7, .int (iI (S 32 z1))), (6, .int (iI (cbC nm z1))), (5, .int (iI (i))), (4, .ref (oD)), (3, .ref (o)), (2, .ref (am 0)), (1, .ref (ad 0 0)), (0, .ref (b))]) (by first | rfl | simp [cat_rf, cat_i, cat_l, cat_r]) ?_
    refine j_aload_n X dL_law_1231 (q := 1232) rfl 5 rfl ?_
    refine j_callV X (As := []) (st := []) hM8.obj rfl (c_X4_thrown0 hlt hM8) sv_L_92 (by decide) rfl (by decide) dL_law_1232 ⟨by show _ ≤ 601024; omega, by show _ ≤ 7293034; omega⟩ (fun _ _ h => h.elim) ?_
    rintro v7 w7 ⟨rfl, rfl⟩
    refine j_st (st := [.int (iI (cbC nm z1))]) ?_
    refine j_iload X dL_law_1235 (q := 1237) rfl 1 rfl ?_
    refine j_icmp_eq X (tgt := 1242) dL_law_1237 (by decide) (q := 1240) rfl (by omega) (by omega) (fun c_1237 => ?_) (fun c_1237 => ?_)
    · skip
      refine j_iload X dL_law_1242 (q := 1244) rfl 1 rfl ?_
      refine j_if_ne X (tgt := 1266) dL_law_1244 (by decide) (q := 1247) rfl (by omega) (fun c_1244 => ?_) (fun c_1244 => ?_)
      · skip
        exact absurd hz0 c_1244
      · skip
        refine j_aload_n X dL_law_1247 (q := 1248) rfl 4 rfl ?_
        refine j_iconst X (a := 0) dL_law_1248 (q := 1249) rfl ?_
        refine j_lald X ho8 ⟨by decide, by decide⟩ (by decide) dL_law_1249 (q := 1250) rfl ?_
        rw [show f9 (Int.toNat 0) = iL (S 32 z1) from hf9]
        refine j_iload X dL_law_1250 (q := 1252) rfl 0 rfl ?_
        refine j_if_eq X (tgt := 1259) dL_law_1252 (by decide) (q := 1255) rfl (by omega) (fun c_1252 => ?_) (fun c_1252 => ?_)
        · skip
          refine j_lconst X (a := 0) (by decide +kernel) dL_law_1259 (q := 1260) rfl ?_
          rw [show (S 32 z1 : Int) = 0 from c_1252]
          refine j_lcmpE X dL_law_1260 (q := 1261) rfl ?_
          refine j_if_eq X (tgt := 1266) dL_law_1261 (by decide) (q := 1264) rfl (by omega) (fun c_1261 => ?_) (fun c_1261 => ?_)
          · skip
            refine j_goto X (tgt := 1475) dL_law_1266 (by decide) ?_
            exact j_lv (nx _ _ _ ⟨ni, nc, nm, S, T, ad, am, _, f9, g, hS.le (by omega) (by omega), hC8, hM8, ⟨ho8, hoD8⟩, rfl, rfl, by omega, by omega⟩) [2, 3, 4, 5, 6, 7] rfl
          · skip
            exact absurd rfl c_1261
        · skip
          refine j_lconst X (a := 1) (by decide +kernel) dL_law_1255 (q := 1256) rfl ?_
          refine j_goto X (tgt := 1260) dL_law_1256 (by decide) ?_
          rw [show (S 32 z1 : Int) = 1 from (by omega)]
          refine j_lcmpE X dL_law_1260 (q := 1261) rfl ?_
          refine j_if_eq X (tgt := 1266) dL_law_1261 (by decide) (q := 1264) rfl (by omega) (fun c_1261 => ?_) (fun c_1261 => ?_)
          · skip
            refine j_goto X (tgt := 1475) dL_law_1266 (by decide) ?_
            exact j_lv (nx _ _ _ ⟨ni, nc, nm, S, T, ad, am, _, f9, g, hS.le (by omega) (by omega), hC8, hM8, ⟨ho8, hoD8⟩, rfl, rfl, by omega, by omega⟩) [2, 3, 4, 5, 6, 7] rfl
          · skip
            exact absurd rfl c_1261
    · skip
      exact absurd rfl c_1237
  · skip
    obtain rfl := hE hz0
    have hCb := hC
    have hMb := hM
    have hob := ho
    have hoDb := hoD
    refine j_istore X (i := 6) dL_law_1217 (by decide) (q := 1219) rfl (lv' := [(6, .int (iI (cbC nm z1))), (5, .int (iI (i))), (4, .ref (oD)), (3, .ref (o)), (2, .ref (am 0)), (1, .ref (ad 0 0)), (0, .ref (b))]) (by first | rfl | simp [cat_rf, cat_i, cat_l, cat_r]) ?_
    refine j_aload_n X dL_law_1219 (q := 1220) rfl 4 rfl ?_
    refine j_aload_n X dL_law_1220 (q := 1221) rfl 6 rfl ?_
    refine j_iload X dL_law_1221 (q := 1223) rfl 1 rfl ?_
    refine j_iconst X (a := 1) dL_law_1223 (q := 1224) rfl ?_
    refine j_iadd X dL_law_1224 (q := 1225) rfl ?_
    refine j_sld X hX hbl hbA (by omega) (by omega) dL_law_1225 (q := 1226) rfl ?_
    rw [e1z]
    refine j_callV X (As := [.int (iI (z1))]) (st := []) hMb.obj rfl (c_X4_isCalledBack hlt hMb hMI z1 hz1) sv_L_159 (by decide) rfl (by first | decide | exact Nat.le_of_ble_eq_true rfl) dL_law_1226 ⟨by show _ ≤ 601024; omega, by show _ ≤ 7293034; omega⟩ (fun _ _ h => h.elim) ?_
    rintro v9 w8 ⟨rfl, hM8, hF8⟩
    refine j_st (st := [.int (iI ((if cbC nm z1 = 0 then T 21 z1 else 0)))]) ?_
    have hm1 : cbC nm z1 ≠ 0 := fun q => hz0 (hcq.symm.trans q)
    rw [hcq] at hM8
    have hC8 := hCb.fr (c := 1) (by decide) hF8
    have ho8 := hF8 _ _ hob (by show (2 : Nat) ≠ 1; decide)
    have hoD8 := hF8 _ _ hoDb (by show (2 : Nat) ≠ 1; decide)
    refine j_istore X (i := 7) dL_law_1229 (by decide) (q := 1231) rfl (lv' := [(7, .int (iI ((if cbC nm z1 = 0 then T 21 z1 else 0)))), (6, .int (iI (cbC nm z1))), (5, .int (iI (i))), (4, .ref (oD)), (3, .ref (o)), (2, .ref (am 0)), (1, .ref (ad 0 0)), (0, .ref (b))]) (by first | rfl | simp [cat_rf, cat_i, cat_l, cat_r]) ?_
    refine j_aload_n X dL_law_1231 (q := 1232) rfl 5 rfl ?_
    refine j_callV X (As := []) (st := []) hM8.obj rfl (c_X4_thrown0 hlt hM8) sv_L_92 (by decide) rfl (by decide) dL_law_1232 ⟨by show _ ≤ 601024; omega, by show _ ≤ 7293034; omega⟩ (fun _ _ h => h.elim) ?_
    rintro v7 w7 ⟨rfl, rfl⟩
    refine j_st (st := [.int (iI (cbC nm z1))]) ?_
    refine j_iload X dL_law_1235 (q := 1237) rfl 1 rfl ?_
    refine j_icmp_eq X (tgt := 1242) dL_law_1237 (by decide) (q := 1240) rfl (by omega) (by omega) (fun c_1237 => ?_) (fun c_1237 => ?_)
    · skip
      refine j_iload X dL_law_1242 (q := 1244) rfl 1 rfl ?_
      refine j_if_ne X (tgt := 1266) dL_law_1244 (by decide) (q := 1247) rfl (by omega) (fun c_1244 => ?_) (fun c_1244 => ?_)
      · skip
        refine j_goto X (tgt := 1475) dL_law_1266 (by decide) ?_
        exact j_lv (nx _ _ _ ⟨ni, nc, nm, S, T, ad, am, _, f, g, hS.le (by omega) (by omega), hC8, hM8, ⟨ho8, hoD8⟩, rfl, rfl, by omega, by omega⟩) [2, 3, 4, 5, 6, 7] rfl
      · skip
        exact absurd c_1244 hz0
    · skip
      exact absurd rfl c_1237

set_option maxRecDepth 100000 in
set_option maxHeartbeats 4000000 in
theorem case_24 (X : Cx p l s m args meth cd ⟨RL, mn, ""⟩ code 9 ret D ca base) (hlt : l.stackTraces = false) {b L : Nat} {xs : Nat → Int32} (hX : va_X b L xs s s.heap) (hbl : b < s.heap.size) (hbA : ¬ base ≤ b) (hL : L ≤ 2560) {i c : Int} (hi : 0 ≤ i ∧ i + 5 ≤ L) (hc : 0 ≤ c ∧ c ≤ 511) {o oD ax ay : Nat} (hbo : base ≤ o) (hbD : base ≤ oD) (hLI : LI base ca ax ay o oD c k n w) (nx : ∀ (k' n' : Nat) (w' : Wd), LI base ca ax ay o oD (c + 1) k' n' w' → J p l e room_1 s m args below meth cd Q D base 9 k' n' 1475 [(5, .int (iI (i))), (4, .ref (oD)), (3, .ref (o)), (2, .ref (ay)), (1, .ref (ax)), (0, .ref (b))] [] w') : J p l e room_1 s m args below meth cd Q D base 9 k n 1419 [(5, .int (iI (i))), (4, .ref (oD)), (3, .ref (o)), (2, .ref (ay)), (1, .ref (ax)), (0, .ref (b))] [] w := by
  obtain ⟨ni, nc, nm, S, T, ad, am, th, f, g, hS, hC, hM, ⟨ho, hoD⟩, rfl, rfl, hk, hn⟩ := hLI
  have hMI := hS.MI hc.2
  have hIC := hS.1
  obtain ⟨hn0, hnc0, hnm0, e3, e4, e5, -, e7, e8⟩ := hIC.top
  obtain ⟨z1, e1z, hz1⟩ := i32 (xs (i + 1).toNat)
  have hcq : ltC z1 = ltC z1 := rfl
  have hcb : 0 ≤ ltC z1 ∧ ltC z1 ≤ 3 := by unfold ltC; (repeat' split) <;> omega
  refine j_aload_n X dL_law_1419 (q := 1420) rfl 4 rfl ?_
  refine j_aload_n X dL_law_1420 (q := 1421) rfl 5 rfl ?_
  refine j_iload X dL_law_1421 (q := 1423) rfl 0 rfl ?_
  refine j_iconst X (a := 1) dL_law_1423 (q := 1424) rfl ?_
  refine j_iadd X dL_law_1424 (q := 1425) rfl ?_
  refine j_sld X hX hbl hbA (by omega) (by omega) dL_law_1425 (q := 1426) rfl ?_
  rw [e1z]
  refine j_aload_n X dL_law_1426 (q := 1427) rfl 2 rfl ?_
  refine j_callW X (As := [.ref (ad 0 0), .int (iI (z1)), .ref (o)]) (st := []) (c_L_late hlt hC hIC o f ho hbo z1 hz1) sw_L_174 (by decide) rfl (by decide) dL_law_1427 ⟨by show _ ≤ 601024; omega, by show _ ≤ 7293034; omega⟩ ?_
  rintro v9 w9 ⟨rfl, hN, hE⟩
  refine j_st (st := [.int (iI (ltC z1))]) ?_
  rcases Classical.em (ltC z1 = 0) with hz0 | hz0
  · skip
    obtain ⟨f9, hf9, rfl⟩ := hN hz0
    have hw1 : Fr 0 w w := Fr.rf
    have hC1 := hC
    have hM1 := hM.fr (c := 0) (by decide) hw1
    have ho1 := hw1 _ _ ho (by show (2 : Nat) ≠ 0; decide)
    have hoD1 := hw1 _ _ hoD (by show (2 : Nat) ≠ 0; decide)
    have hFs : Fr 2 w (wu w o (eLong ca f9)) := Fr.set ho1 rfl
    have hCb := hC1.fr (c := 2) (by decide) hFs
    have hMb := hM1.fr (c := 2) (by decide) hFs
    have hwn : (wu w o (eLong ca f9)) o = some (eLong ca f9) := wu_s
    have hoDb : (wu w o (eLong ca f9)) oD = some (eDbl ca g) := (wu_n (ne_of_cell hoD1 ho1 e_DL)).trans hoD1
    have hob := hwn
    generalize (wu w o (eLong ca f9)) = wb at hCb hMb hob hoDb ⊢
    refine j_istore X (i := 6) dL_law_1430 (by decide) (q := 1432) rfl (lv' := [(6, .int (iI (ltC z1))), (5, .int (iI (i))), (4, .ref (oD)), (3, .ref (o)), (2, .ref (am 0)), (1, .ref (ad 0 0)), (0, .ref (b))]) (by first | rfl | simp [cat_rf, cat_i, cat_l, cat_r]) ?_
    refine j_aload_n X dL_law_1432 (q := 1433) rfl 4 rfl ?_
    refine j_aload_n X dL_law_1433 (q := 1434) rfl 6 rfl ?_
    refine j_iload X dL_law_1434 (q := 1436) rfl 1 rfl ?_
    refine j_iconst X (a := 1) dL_law_1436 (q := 1437) rfl ?_
    refine j_iadd X dL_law_1437 (q := 1438) rfl ?_
    refine j_sld X hX hbl hbA (by omega) (by omega) dL_law_1438 (q := 1439) rfl ?_
    rw [e1z]
    refine j_callV X (As := [.int (iI (z1))]) (st := []) hMb.obj rfl (c_X4_late hlt hMb hMI z1 hz1) sv_L_176 (by decide) rfl (by first | decide | exact Nat.le_of_ble_eq_true rfl) dL_law_1439 ⟨by show _ ≤ 601024; omega, by show _ ≤ 7293034; omega⟩ (fun _ _ h => h.elim) ?_
    rintro v9 w8 ⟨rfl, hM8, hF8⟩
    refine j_st (st := [.int (iI ((if ltC z1 = 0 then sm (latm ni T z1) ni.toNat else 0)))]) ?_
    have hm0 : ltC z1 = 0 := hcq.trans hz0
    have hans : (if ltC z1 = 0 then sm (latm ni T z1) ni.toNat else 0) = sm (latc S z1) 12 := by
      rw [if_pos hz0]; exact hS.late
    rw [hans]
    rw [hcq] at hM8
    have hC8 := hCb.fr (c := 1) (by decide) hF8
    have ho8 := hF8 _ _ hob (by show (2 : Nat) ≠ 1; decide)
    have hoD8 := hF8 _ _ hoDb (by show (2 : Nat) ≠ 1; decide)
    refine j_istore X (i := 7) dL_law_1442 (by decide) (q := 1444) rfl (lv' := [(7, .int (iI (sm (latc S z1) 12))), (6, .int (iI (ltC z1))), (5, .int (iI (i))), (4, .ref (oD)), (3, .ref (o)), (2, .ref (am 0)), (1, .ref (ad 0 0)), (0, .ref (b))]) (by first | rfl | simp [cat_rf, cat_i, cat_l, cat_r]) ?_
    refine j_aload_n X dL_law_1444 (q := 1445) rfl 5 rfl ?_
    refine j_callV X (As := []) (st := []) hM8.obj rfl (c_X4_thrown0 hlt hM8) sv_L_92 (by decide) rfl (by decide) dL_law_1445 ⟨by show _ ≤ 601024; omega, by show _ ≤ 7293034; omega⟩ (fun _ _ h => h.elim) ?_
    rintro v7 w7 ⟨rfl, rfl⟩
    refine j_st (st := [.int (iI (ltC z1))]) ?_
    refine j_iload X dL_law_1448 (q := 1450) rfl 1 rfl ?_
    refine j_icmp_eq X (tgt := 1455) dL_law_1450 (by decide) (q := 1453) rfl (by omega) (by omega) (fun c_1450 => ?_) (fun c_1450 => ?_)
    · skip
      refine j_iload X dL_law_1455 (q := 1457) rfl 1 rfl ?_
      refine j_if_ne X (tgt := 1472) dL_law_1457 (by decide) (q := 1460) rfl (by omega) (fun c_1457 => ?_) (fun c_1457 => ?_)
      · skip
        exact absurd hz0 c_1457
      · skip
        refine j_aload_n X dL_law_1460 (q := 1461) rfl 4 rfl ?_
        refine j_iconst X (a := 0) dL_law_1461 (q := 1462) rfl ?_
        refine j_lald X ho8 ⟨by decide, by decide⟩ (by decide) dL_law_1462 (q := 1463) rfl ?_
        rw [show f9 (Int.toNat 0) = (iI (sm (latc S z1) 12)).toInt64 from hf9]
        refine j_iload X dL_law_1463 (q := 1465) rfl 0 rfl ?_
        refine j_i2lR X dL_law_1465 (q := 1466) rfl ?_
        refine j_lcmpE X dL_law_1466 (q := 1467) rfl ?_
        refine j_if_eq X (tgt := 1472) dL_law_1467 (by decide) (q := 1470) rfl (by omega) (fun c_1467 => ?_) (fun c_1467 => ?_)
        · skip
          refine j_goto X (tgt := 1475) dL_law_1472 (by decide) ?_
          exact j_lv (nx _ _ _ ⟨ni, nc, nm, S, T, ad, am, _, f9, g, hS.le (by omega) (by omega), hC8, hM8, ⟨ho8, hoD8⟩, rfl, rfl, by omega, by omega⟩) [2, 3, 4, 5, 6, 7] rfl
        · skip
          exact absurd rfl c_1467
    · skip
      exact absurd rfl c_1450
  · skip
    obtain rfl := hE hz0
    have hCb := hC
    have hMb := hM
    have hob := ho
    have hoDb := hoD
    refine j_istore X (i := 6) dL_law_1430 (by decide) (q := 1432) rfl (lv' := [(6, .int (iI (ltC z1))), (5, .int (iI (i))), (4, .ref (oD)), (3, .ref (o)), (2, .ref (am 0)), (1, .ref (ad 0 0)), (0, .ref (b))]) (by first | rfl | simp [cat_rf, cat_i, cat_l, cat_r]) ?_
    refine j_aload_n X dL_law_1432 (q := 1433) rfl 4 rfl ?_
    refine j_aload_n X dL_law_1433 (q := 1434) rfl 6 rfl ?_
    refine j_iload X dL_law_1434 (q := 1436) rfl 1 rfl ?_
    refine j_iconst X (a := 1) dL_law_1436 (q := 1437) rfl ?_
    refine j_iadd X dL_law_1437 (q := 1438) rfl ?_
    refine j_sld X hX hbl hbA (by omega) (by omega) dL_law_1438 (q := 1439) rfl ?_
    rw [e1z]
    refine j_callV X (As := [.int (iI (z1))]) (st := []) hMb.obj rfl (c_X4_late hlt hMb hMI z1 hz1) sv_L_176 (by decide) rfl (by first | decide | exact Nat.le_of_ble_eq_true rfl) dL_law_1439 ⟨by show _ ≤ 601024; omega, by show _ ≤ 7293034; omega⟩ (fun _ _ h => h.elim) ?_
    rintro v9 w8 ⟨rfl, hM8, hF8⟩
    refine j_st (st := [.int (iI ((if ltC z1 = 0 then sm (latm ni T z1) ni.toNat else 0)))]) ?_
    have hm1 : ltC z1 ≠ 0 := fun q => hz0 (hcq.symm.trans q)
    rw [hcq] at hM8
    have hC8 := hCb.fr (c := 1) (by decide) hF8
    have ho8 := hF8 _ _ hob (by show (2 : Nat) ≠ 1; decide)
    have hoD8 := hF8 _ _ hoDb (by show (2 : Nat) ≠ 1; decide)
    refine j_istore X (i := 7) dL_law_1442 (by decide) (q := 1444) rfl (lv' := [(7, .int (iI ((if ltC z1 = 0 then sm (latm ni T z1) ni.toNat else 0)))), (6, .int (iI (ltC z1))), (5, .int (iI (i))), (4, .ref (oD)), (3, .ref (o)), (2, .ref (am 0)), (1, .ref (ad 0 0)), (0, .ref (b))]) (by first | rfl | simp [cat_rf, cat_i, cat_l, cat_r]) ?_
    refine j_aload_n X dL_law_1444 (q := 1445) rfl 5 rfl ?_
    refine j_callV X (As := []) (st := []) hM8.obj rfl (c_X4_thrown0 hlt hM8) sv_L_92 (by decide) rfl (by decide) dL_law_1445 ⟨by show _ ≤ 601024; omega, by show _ ≤ 7293034; omega⟩ (fun _ _ h => h.elim) ?_
    rintro v7 w7 ⟨rfl, rfl⟩
    refine j_st (st := [.int (iI (ltC z1))]) ?_
    refine j_iload X dL_law_1448 (q := 1450) rfl 1 rfl ?_
    refine j_icmp_eq X (tgt := 1455) dL_law_1450 (by decide) (q := 1453) rfl (by omega) (by omega) (fun c_1450 => ?_) (fun c_1450 => ?_)
    · skip
      refine j_iload X dL_law_1455 (q := 1457) rfl 1 rfl ?_
      refine j_if_ne X (tgt := 1472) dL_law_1457 (by decide) (q := 1460) rfl (by omega) (fun c_1457 => ?_) (fun c_1457 => ?_)
      · skip
        refine j_goto X (tgt := 1475) dL_law_1472 (by decide) ?_
        exact j_lv (nx _ _ _ ⟨ni, nc, nm, S, T, ad, am, _, f, g, hS.le (by omega) (by omega), hC8, hM8, ⟨ho8, hoD8⟩, rfl, rfl, by omega, by omega⟩) [2, 3, 4, 5, 6, 7] rfl
      · skip
        exact absurd c_1457 hz0
    · skip
      exact absurd rfl c_1450

set_option maxRecDepth 100000 in
set_option maxHeartbeats 4000000 in
theorem case_23 (X : Cx p l s m args meth cd ⟨RL, mn, ""⟩ code 9 ret D ca base) (hlt : l.stackTraces = false) {b L : Nat} {xs : Nat → Int32} (hX : va_X b L xs s s.heap) (hbl : b < s.heap.size) (hbA : ¬ base ≤ b) (hL : L ≤ 2560) {i c : Int} (hi : 0 ≤ i ∧ i + 5 ≤ L) (hc : 0 ≤ c ∧ c ≤ 511) {o oD ax ay : Nat} (hbo : base ≤ o) (hbD : base ≤ oD) (hLI : LI base ca ax ay o oD c k n w) (nx : ∀ (k' n' : Nat) (w' : Wd), LI base ca ax ay o oD (c + 1) k' n' w' → J p l e room_1 s m args below meth cd Q D base 9 k' n' 1475 [(5, .int (iI (i))), (4, .ref (oD)), (3, .ref (o)), (2, .ref (ay)), (1, .ref (ax)), (0, .ref (b))] [] w') : J p l e room_1 s m args below meth cd Q D base 9 k n 1351 [(5, .int (iI (i))), (4, .ref (oD)), (3, .ref (o)), (2, .ref (ay)), (1, .ref (ax)), (0, .ref (b))] [] w := by
  obtain ⟨ni, nc, nm, S, T, ad, am, th, f, g, hS, hC, hM, ⟨ho, hoD⟩, rfl, rfl, hk, hn⟩ := hLI
  have hMI := hS.MI hc.2
  have hIC := hS.1
  obtain ⟨hn0, hnc0, hnm0, e3, e4, e5, -, e7, e8⟩ := hIC.top
  obtain ⟨z1, e1z, hz1⟩ := i32 (xs (i + 1).toNat)
  obtain ⟨z2, e2z, hz2⟩ := i32 (xs (i + 2).toNat)
  have hcq : bdC ni z1 z2 = bdC ni z1 z2 := rfl
  have hcb : 0 ≤ bdC ni z1 z2 ∧ bdC ni z1 z2 ≤ 3 := by unfold bdC; (repeat' split) <;> omega
  refine j_aload_n X dL_law_1351 (q := 1352) rfl 4 rfl ?_
  refine j_aload_n X dL_law_1352 (q := 1353) rfl 5 rfl ?_
  refine j_iload X dL_law_1353 (q := 1355) rfl 0 rfl ?_
  refine j_iconst X (a := 1) dL_law_1355 (q := 1356) rfl ?_
  refine j_iadd X dL_law_1356 (q := 1357) rfl ?_
  refine j_sld X hX hbl hbA (by omega) (by omega) dL_law_1357 (q := 1358) rfl ?_
  rw [e1z]
  refine j_aload_n X dL_law_1358 (q := 1359) rfl 5 rfl ?_
  refine j_iload X dL_law_1359 (q := 1361) rfl 0 rfl ?_
  refine j_iconst X (a := 2) dL_law_1361 (q := 1362) rfl ?_
  refine j_iadd X dL_law_1362 (q := 1363) rfl ?_
  refine j_sld X hX hbl hbA (by omega) (by omega) dL_law_1363 (q := 1364) rfl ?_
  rw [e2z]
  refine j_aload_n X dL_law_1364 (q := 1365) rfl 2 rfl ?_
  refine j_callW X (As := [.ref (ad 0 0), .int (iI (z1)), .int (iI (z2)), .ref (o)]) (st := []) (c_L_benchDay hlt hC hIC o f ho hbo z1 hz1 z2 hz2) sw_L_171 (by decide) rfl (by decide) dL_law_1365 ⟨by show _ ≤ 601024; omega, by show _ ≤ 7293034; omega⟩ ?_
  rintro v9 w9 ⟨rfl, hN, hE⟩
  refine j_st (st := [.int (iI (bdC ni z1 z2))]) ?_
  rcases Classical.em (bdC ni z1 z2 = 0) with hz0 | hz0
  · skip
    obtain ⟨f9, hf9, rfl⟩ := hN hz0
    have hw1 : Fr 0 w w := Fr.rf
    have hC1 := hC
    have hM1 := hM.fr (c := 0) (by decide) hw1
    have ho1 := hw1 _ _ ho (by show (2 : Nat) ≠ 0; decide)
    have hoD1 := hw1 _ _ hoD (by show (2 : Nat) ≠ 0; decide)
    have hFs : Fr 2 w (wu w o (eLong ca f9)) := Fr.set ho1 rfl
    have hCb := hC1.fr (c := 2) (by decide) hFs
    have hMb := hM1.fr (c := 2) (by decide) hFs
    have hwn : (wu w o (eLong ca f9)) o = some (eLong ca f9) := wu_s
    have hoDb : (wu w o (eLong ca f9)) oD = some (eDbl ca g) := (wu_n (ne_of_cell hoD1 ho1 e_DL)).trans hoD1
    have hob := hwn
    generalize (wu w o (eLong ca f9)) = wb at hCb hMb hob hoDb ⊢
    refine j_istore X (i := 6) dL_law_1368 (by decide) (q := 1370) rfl (lv' := [(6, .int (iI (bdC ni z1 z2))), (5, .int (iI (i))), (4, .ref (oD)), (3, .ref (o)), (2, .ref (am 0)), (1, .ref (ad 0 0)), (0, .ref (b))]) (by first | rfl | simp [cat_rf, cat_i, cat_l, cat_r]) ?_
    refine j_aload_n X dL_law_1370 (q := 1371) rfl 4 rfl ?_
    refine j_aload_n X dL_law_1371 (q := 1372) rfl 6 rfl ?_
    refine j_iload X dL_law_1372 (q := 1374) rfl 1 rfl ?_
    refine j_iconst X (a := 1) dL_law_1374 (q := 1375) rfl ?_
    refine j_iadd X dL_law_1375 (q := 1376) rfl ?_
    refine j_sld X hX hbl hbA (by omega) (by omega) dL_law_1376 (q := 1377) rfl ?_
    rw [e1z]
    refine j_aload_n X dL_law_1377 (q := 1378) rfl 6 rfl ?_
    refine j_iload X dL_law_1378 (q := 1380) rfl 1 rfl ?_
    refine j_iconst X (a := 2) dL_law_1380 (q := 1381) rfl ?_
    refine j_iadd X dL_law_1381 (q := 1382) rfl ?_
    refine j_sld X hX hbl hbA (by omega) (by omega) dL_law_1382 (q := 1383) rfl ?_
    rw [e2z]
    refine j_callV X (As := [.int (iI (z1)), .int (iI (z2))]) (st := []) hMb.obj rfl (c_X4_benchDay hlt hMb hMI z1 hz1 z2 hz2) sv_L_173 (by decide) rfl (by first | decide | exact Nat.le_of_ble_eq_true rfl) dL_law_1383 ⟨by show _ ≤ 601024; omega, by show _ ≤ 7293034; omega⟩ (fun _ _ h => h.elim) ?_
    rintro v9 w8 ⟨rfl, hM8, hF8⟩
    refine j_st (st := [.int (iI ((if bdC ni z1 z2 = 0 then (if 0 < T 8 z1 then dob ni T z1 z2 else -1) else 0)))]) ?_
    have hm0 : bdC ni z1 z2 = 0 := hcq.trans hz0
    have hans : (if bdC ni z1 z2 = 0 then (if 0 < T 8 z1 then dob ni T z1 z2 else -1) else 0) = if S 15 z1 < 0 then -1 else S 7 0 + (ahd S z1).tdiv z2 := by
      have hk9 : 0 ≤ z1 ∧ z1 < ni := by unfold bdC at hz0; split at hz0; assumption; cases hz0
      have h2 := hS.cal hk9.1 hk9.2
      rw [if_pos hz0]
      by_cases cc : S 15 z1 < 0
      · rw [if_neg (by omega), if_pos cc]
      · rw [if_pos (by omega), if_neg cc]; exact hS.dob hk9.1 hk9.2 (by omega)
    rw [hans]
    rw [hcq] at hM8
    have hC8 := hCb.fr (c := 1) (by decide) hF8
    have ho8 := hF8 _ _ hob (by show (2 : Nat) ≠ 1; decide)
    have hoD8 := hF8 _ _ hoDb (by show (2 : Nat) ≠ 1; decide)
    refine j_istore X (i := 7) dL_law_1386 (by decide) (q := 1388) rfl (lv' := [(7, .int (iI (if S 15 z1 < 0 then -1 else S 7 0 + (ahd S z1).tdiv z2))), (6, .int (iI (bdC ni z1 z2))), (5, .int (iI (i))), (4, .ref (oD)), (3, .ref (o)), (2, .ref (am 0)), (1, .ref (ad 0 0)), (0, .ref (b))]) (by first | rfl | simp [cat_rf, cat_i, cat_l, cat_r]) ?_
    refine j_aload_n X dL_law_1388 (q := 1389) rfl 5 rfl ?_
    refine j_callV X (As := []) (st := []) hM8.obj rfl (c_X4_thrown0 hlt hM8) sv_L_92 (by decide) rfl (by decide) dL_law_1389 ⟨by show _ ≤ 601024; omega, by show _ ≤ 7293034; omega⟩ (fun _ _ h => h.elim) ?_
    rintro v7 w7 ⟨rfl, rfl⟩
    refine j_st (st := [.int (iI (bdC ni z1 z2))]) ?_
    refine j_iload X dL_law_1392 (q := 1394) rfl 1 rfl ?_
    refine j_icmp_eq X (tgt := 1399) dL_law_1394 (by decide) (q := 1397) rfl (by omega) (by omega) (fun c_1394 => ?_) (fun c_1394 => ?_)
    · skip
      refine j_iload X dL_law_1399 (q := 1401) rfl 1 rfl ?_
      refine j_if_ne X (tgt := 1416) dL_law_1401 (by decide) (q := 1404) rfl (by omega) (fun c_1401 => ?_) (fun c_1401 => ?_)
      · skip
        exact absurd hz0 c_1401
      · skip
        refine j_aload_n X dL_law_1404 (q := 1405) rfl 4 rfl ?_
        refine j_iconst X (a := 0) dL_law_1405 (q := 1406) rfl ?_
        refine j_lald X ho8 ⟨by decide, by decide⟩ (by decide) dL_law_1406 (q := 1407) rfl ?_
        rw [show f9 (Int.toNat 0) = (iI (if S 15 z1 < 0 then -1 else S 7 0 + (ahd S z1).tdiv z2)).toInt64 from hf9]
        refine j_iload X dL_law_1407 (q := 1409) rfl 0 rfl ?_
        refine j_i2lR X dL_law_1409 (q := 1410) rfl ?_
        refine j_lcmpE X dL_law_1410 (q := 1411) rfl ?_
        refine j_if_eq X (tgt := 1416) dL_law_1411 (by decide) (q := 1414) rfl (by omega) (fun c_1411 => ?_) (fun c_1411 => ?_)
        · skip
          refine j_goto X (tgt := 1475) dL_law_1416 (by decide) ?_
          exact j_lv (nx _ _ _ ⟨ni, nc, nm, S, T, ad, am, _, f9, g, hS.le (by omega) (by omega), hC8, hM8, ⟨ho8, hoD8⟩, rfl, rfl, by omega, by omega⟩) [2, 3, 4, 5, 6, 7] rfl
        · skip
          exact absurd rfl c_1411
    · skip
      exact absurd rfl c_1394
  · skip
    obtain rfl := hE hz0
    have hCb := hC
    have hMb := hM
    have hob := ho
    have hoDb := hoD
    refine j_istore X (i := 6) dL_law_1368 (by decide) (q := 1370) rfl (lv' := [(6, .int (iI (bdC ni z1 z2))), (5, .int (iI (i))), (4, .ref (oD)), (3, .ref (o)), (2, .ref (am 0)), (1, .ref (ad 0 0)), (0, .ref (b))]) (by first | rfl | simp [cat_rf, cat_i, cat_l, cat_r]) ?_
    refine j_aload_n X dL_law_1370 (q := 1371) rfl 4 rfl ?_
    refine j_aload_n X dL_law_1371 (q := 1372) rfl 6 rfl ?_
    refine j_iload X dL_law_1372 (q := 1374) rfl 1 rfl ?_
    refine j_iconst X (a := 1) dL_law_1374 (q := 1375) rfl ?_
    refine j_iadd X dL_law_1375 (q := 1376) rfl ?_
    refine j_sld X hX hbl hbA (by omega) (by omega) dL_law_1376 (q := 1377) rfl ?_
    rw [e1z]
    refine j_aload_n X dL_law_1377 (q := 1378) rfl 6 rfl ?_
    refine j_iload X dL_law_1378 (q := 1380) rfl 1 rfl ?_
    refine j_iconst X (a := 2) dL_law_1380 (q := 1381) rfl ?_
    refine j_iadd X dL_law_1381 (q := 1382) rfl ?_
    refine j_sld X hX hbl hbA (by omega) (by omega) dL_law_1382 (q := 1383) rfl ?_
    rw [e2z]
    refine j_callV X (As := [.int (iI (z1)), .int (iI (z2))]) (st := []) hMb.obj rfl (c_X4_benchDay hlt hMb hMI z1 hz1 z2 hz2) sv_L_173 (by decide) rfl (by first | decide | exact Nat.le_of_ble_eq_true rfl) dL_law_1383 ⟨by show _ ≤ 601024; omega, by show _ ≤ 7293034; omega⟩ (fun _ _ h => h.elim) ?_
    rintro v9 w8 ⟨rfl, hM8, hF8⟩
    refine j_st (st := [.int (iI ((if bdC ni z1 z2 = 0 then (if 0 < T 8 z1 then dob ni T z1 z2 else -1) else 0)))]) ?_
    have hm1 : bdC ni z1 z2 ≠ 0 := fun q => hz0 (hcq.symm.trans q)
    rw [hcq] at hM8
    have hC8 := hCb.fr (c := 1) (by decide) hF8
    have ho8 := hF8 _ _ hob (by show (2 : Nat) ≠ 1; decide)
    have hoD8 := hF8 _ _ hoDb (by show (2 : Nat) ≠ 1; decide)
    refine j_istore X (i := 7) dL_law_1386 (by decide) (q := 1388) rfl (lv' := [(7, .int (iI ((if bdC ni z1 z2 = 0 then (if 0 < T 8 z1 then dob ni T z1 z2 else -1) else 0)))), (6, .int (iI (bdC ni z1 z2))), (5, .int (iI (i))), (4, .ref (oD)), (3, .ref (o)), (2, .ref (am 0)), (1, .ref (ad 0 0)), (0, .ref (b))]) (by first | rfl | simp [cat_rf, cat_i, cat_l, cat_r]) ?_
    refine j_aload_n X dL_law_1388 (q := 1389) rfl 5 rfl ?_
    refine j_callV X (As := []) (st := []) hM8.obj rfl (c_X4_thrown0 hlt hM8) sv_L_92 (by decide) rfl (by decide) dL_law_1389 ⟨by show _ ≤ 601024; omega, by show _ ≤ 7293034; omega⟩ (fun _ _ h => h.elim) ?_
    rintro v7 w7 ⟨rfl, rfl⟩
    refine j_st (st := [.int (iI (bdC ni z1 z2))]) ?_
    refine j_iload X dL_law_1392 (q := 1394) rfl 1 rfl ?_
    refine j_icmp_eq X (tgt := 1399) dL_law_1394 (by decide) (q := 1397) rfl (by omega) (by omega) (fun c_1394 => ?_) (fun c_1394 => ?_)
    · skip
      refine j_iload X dL_law_1399 (q := 1401) rfl 1 rfl ?_
      refine j_if_ne X (tgt := 1416) dL_law_1401 (by decide) (q := 1404) rfl (by omega) (fun c_1401 => ?_) (fun c_1401 => ?_)
      · skip
        refine j_goto X (tgt := 1475) dL_law_1416 (by decide) ?_
        exact j_lv (nx _ _ _ ⟨ni, nc, nm, S, T, ad, am, _, f, g, hS.le (by omega) (by omega), hC8, hM8, ⟨ho8, hoD8⟩, rfl, rfl, by omega, by omega⟩) [2, 3, 4, 5, 6, 7] rfl
      · skip
        exact absurd c_1401 hz0
    · skip
      exact absurd rfl c_1394

set_option maxRecDepth 100000 in
set_option maxHeartbeats 4000000 in
theorem case_14 (X : Cx p l s m args meth cd ⟨RL, mn, ""⟩ code 9 ret D ca base) (hlt : l.stackTraces = false) {b L : Nat} {xs : Nat → Int32} (hX : va_X b L xs s s.heap) (hbl : b < s.heap.size) (hbA : ¬ base ≤ b) (hL : L ≤ 2560) {i c : Int} (hi : 0 ≤ i ∧ i + 5 ≤ L) (hc : 0 ≤ c ∧ c ≤ 511) {o oD ax ay : Nat} (hbo : base ≤ o) (hbD : base ≤ oD) (hLI : LI base ca ax ay o oD c k n w) (nx : ∀ (k' n' : Nat) (w' : Wd), LI base ca ax ay o oD (c + 1) k' n' w' → J p l e room_1 s m args below meth cd Q D base 9 k' n' 1475 [(5, .int (iI (i))), (4, .ref (oD)), (3, .ref (o)), (2, .ref (ay)), (1, .ref (ax)), (0, .ref (b))] [] w') : J p l e room_1 s m args below meth cd Q D base 9 k n 958 [(5, .int (iI (i))), (4, .ref (oD)), (3, .ref (o)), (2, .ref (ay)), (1, .ref (ax)), (0, .ref (b))] [] w := by
  obtain ⟨ni, nc, nm, S, T, ad, am, th, f, g, hS, hC, hM, ⟨ho, hoD⟩, rfl, rfl, hk, hn⟩ := hLI
  have hMI := hS.MI hc.2
  have hIC := hS.1
  obtain ⟨hn0, hnc0, hnm0, e3, e4, e5, -, e7, e8⟩ := hIC.top
  obtain ⟨z1, e1z, hz1⟩ := i32 (xs (i + 1).toNat)
  obtain ⟨z2, e2z, hz2⟩ := i32 (xs (i + 2).toNat)
  have hcq : exC ni T z1 z2 = exK ni S z1 z2 := by
    unfold exC exK
    by_cases hk9 : 0 ≤ z1 ∧ z1 < ni
    · have h2 := hS.cal hk9.1 hk9.2
      rw [if_pos hk9, if_pos hk9]
      by_cases cc : 0 ≤ S 15 z1
      · rw [if_pos cc, if_pos (h2.mpr cc)]
      · rw [if_neg cc, if_neg (fun q => cc (h2.mp q))]
    · rw [if_neg hk9, if_neg hk9]
  have hcb : 0 ≤ exK ni S z1 z2 ∧ exK ni S z1 z2 ≤ 3 := by unfold exK; (repeat' split) <;> omega
  refine j_aload_n X dL_law_958 (q := 959) rfl 4 rfl ?_
  refine j_aload_n X dL_law_959 (q := 960) rfl 5 rfl ?_
  refine j_iload X dL_law_960 (q := 962) rfl 0 rfl ?_
  refine j_iconst X (a := 1) dL_law_962 (q := 963) rfl ?_
  refine j_iadd X dL_law_963 (q := 964) rfl ?_
  refine j_sld X hX hbl hbA (by omega) (by omega) dL_law_964 (q := 965) rfl ?_
  rw [e1z]
  refine j_aload_n X dL_law_965 (q := 966) rfl 5 rfl ?_
  refine j_iload X dL_law_966 (q := 968) rfl 0 rfl ?_
  refine j_iconst X (a := 2) dL_law_968 (q := 969) rfl ?_
  refine j_iadd X dL_law_969 (q := 970) rfl ?_
  refine j_sld X hX hbl hbA (by omega) (by omega) dL_law_970 (q := 971) rfl ?_
  rw [e2z]
  refine j_aload_n X dL_law_971 (q := 972) rfl 2 rfl ?_
  refine j_callW X (As := [.ref (ad 0 0), .int (iI (z1)), .int (iI (z2)), .ref (o)]) (st := []) (c_L_expected hlt hC hIC o f ho hbo z1 hz1 z2 hz2) sw_L_141 (by decide) rfl (by decide) dL_law_972 ⟨by show _ ≤ 601024; omega, by show _ ≤ 7293034; omega⟩ ?_
  rintro v9 w9 ⟨rfl, hN, hE⟩
  refine j_st (st := [.int (iI (exK ni S z1 z2))]) ?_
  rcases Classical.em (exK ni S z1 z2 = 0) with hz0 | hz0
  · skip
    obtain ⟨f9, hf9, rfl⟩ := hN hz0
    have hw1 : Fr 0 w w := Fr.rf
    have hC1 := hC
    have hM1 := hM.fr (c := 0) (by decide) hw1
    have ho1 := hw1 _ _ ho (by show (2 : Nat) ≠ 0; decide)
    have hoD1 := hw1 _ _ hoD (by show (2 : Nat) ≠ 0; decide)
    have hFs : Fr 2 w (wu w o (eLong ca f9)) := Fr.set ho1 rfl
    have hCb := hC1.fr (c := 2) (by decide) hFs
    have hMb := hM1.fr (c := 2) (by decide) hFs
    have hwn : (wu w o (eLong ca f9)) o = some (eLong ca f9) := wu_s
    have hoDb : (wu w o (eLong ca f9)) oD = some (eDbl ca g) := (wu_n (ne_of_cell hoD1 ho1 e_DL)).trans hoD1
    have hob := hwn
    generalize (wu w o (eLong ca f9)) = wb at hCb hMb hob hoDb ⊢
    refine j_istore X (i := 6) dL_law_975 (by decide) (q := 977) rfl (lv' := [(6, .int (iI (exK ni S z1 z2))), (5, .int (iI (i))), (4, .ref (oD)), (3, .ref (o)), (2, .ref (am 0)), (1, .ref (ad 0 0)), (0, .ref (b))]) (by first | rfl | simp [cat_rf, cat_i, cat_l, cat_r]) ?_
    refine j_aload_n X dL_law_977 (q := 978) rfl 4 rfl ?_
    refine j_aload_n X dL_law_978 (q := 979) rfl 6 rfl ?_
    refine j_iload X dL_law_979 (q := 981) rfl 1 rfl ?_
    refine j_iconst X (a := 1) dL_law_981 (q := 982) rfl ?_
    refine j_iadd X dL_law_982 (q := 983) rfl ?_
    refine j_sld X hX hbl hbA (by omega) (by omega) dL_law_983 (q := 984) rfl ?_
    rw [e1z]
    refine j_aload_n X dL_law_984 (q := 985) rfl 6 rfl ?_
    refine j_iload X dL_law_985 (q := 987) rfl 1 rfl ?_
    refine j_iconst X (a := 2) dL_law_987 (q := 988) rfl ?_
    refine j_iadd X dL_law_988 (q := 989) rfl ?_
    refine j_sld X hX hbl hbA (by omega) (by omega) dL_law_989 (q := 990) rfl ?_
    rw [e2z]
    refine j_callV X (As := [.int (iI (z1)), .int (iI (z2))]) (st := []) hMb.obj rfl (c_X4_expected hlt hMb hMI z1 hz1 z2 hz2) sv_L_143 (by decide) rfl (by first | decide | exact Nat.le_of_ble_eq_true rfl) dL_law_990 ⟨by show _ ≤ 601024; omega, by show _ ≤ 7293034; omega⟩ (fun _ _ h => h.elim) ?_
    rintro v9 w8 ⟨rfl, hM8, hF8⟩
    refine j_st (st := [.long (iL ((if exC ni T z1 z2 = 0 then errM T z1 z2 else 0)))]) ?_
    have hm0 : exC ni T z1 z2 = 0 := hcq.trans hz0
    have hans : (if exC ni T z1 z2 = 0 then errM T z1 z2 else 0) = errS S z1 (S 15 z1) z2 := by
      rw [if_pos hm0]
      unfold exK at hz0
      split at hz0
      · next hk9 =>
        split at hz0
        · split at hz0
          · next cc => exact hS.err hk9.1 hk9.2 cc
          · cases hz0
        · cases hz0
      · cases hz0
    rw [hans]
    rw [hcq] at hM8
    have hC8 := hCb.fr (c := 1) (by decide) hF8
    have ho8 := hF8 _ _ hob (by show (2 : Nat) ≠ 1; decide)
    have hoD8 := hF8 _ _ hoDb (by show (2 : Nat) ≠ 1; decide)
    refine j_lstore X (i := 7) dL_law_993 (by decide) (q := 995) rfl (lv' := [(7, .long (iL (errS S z1 (S 15 z1) z2))), (6, .int (iI (exK ni S z1 z2))), (5, .int (iI (i))), (4, .ref (oD)), (3, .ref (o)), (2, .ref (am 0)), (1, .ref (ad 0 0)), (0, .ref (b))]) (by first | rfl | simp [cat_rf, cat_i, cat_l, cat_r]) ?_
    refine j_aload_n X dL_law_995 (q := 996) rfl 5 rfl ?_
    refine j_callV X (As := []) (st := []) hM8.obj rfl (c_X4_thrown0 hlt hM8) sv_L_92 (by decide) rfl (by decide) dL_law_996 ⟨by show _ ≤ 601024; omega, by show _ ≤ 7293034; omega⟩ (fun _ _ h => h.elim) ?_
    rintro v7 w7 ⟨rfl, rfl⟩
    refine j_st (st := [.int (iI (exK ni S z1 z2))]) ?_
    refine j_iload X dL_law_999 (q := 1001) rfl 1 rfl ?_
    refine j_icmp_eq X (tgt := 1006) dL_law_1001 (by decide) (q := 1004) rfl (by omega) (by omega) (fun c_1001 => ?_) (fun c_1001 => ?_)
    · skip
      refine j_iload X dL_law_1006 (q := 1008) rfl 1 rfl ?_
      refine j_if_ne X (tgt := 1022) dL_law_1008 (by decide) (q := 1011) rfl (by omega) (fun c_1008 => ?_) (fun c_1008 => ?_)
      · skip
        exact absurd hz0 c_1008
      · skip
        refine j_aload_n X dL_law_1011 (q := 1012) rfl 4 rfl ?_
        refine j_iconst X (a := 0) dL_law_1012 (q := 1013) rfl ?_
        refine j_lald X ho8 ⟨by decide, by decide⟩ (by decide) dL_law_1013 (q := 1014) rfl ?_
        rw [show f9 (Int.toNat 0) = iL (errS S z1 (S 15 z1) z2) from hf9]
        refine j_lload X dL_law_1014 (q := 1016) rfl 0 rfl ?_
        refine j_lcmpE X dL_law_1016 (q := 1017) rfl ?_
        refine j_if_eq X (tgt := 1022) dL_law_1017 (by decide) (q := 1020) rfl (by omega) (fun c_1017 => ?_) (fun c_1017 => ?_)
        · skip
          refine j_goto X (tgt := 1475) dL_law_1022 (by decide) ?_
          exact j_lv (nx _ _ _ ⟨ni, nc, nm, S, T, ad, am, _, f9, g, hS.le (by omega) (by omega), hC8, hM8, ⟨ho8, hoD8⟩, rfl, rfl, by omega, by omega⟩) [2, 3, 4, 5, 6, 7] rfl
        · skip
          exact absurd rfl c_1017
    · skip
      exact absurd rfl c_1001
  · skip
    obtain rfl := hE hz0
    have hCb := hC
    have hMb := hM
    have hob := ho
    have hoDb := hoD
    refine j_istore X (i := 6) dL_law_975 (by decide) (q := 977) rfl (lv' := [(6, .int (iI (exK ni S z1 z2))), (5, .int (iI (i))), (4, .ref (oD)), (3, .ref (o)), (2, .ref (am 0)), (1, .ref (ad 0 0)), (0, .ref (b))]) (by first | rfl | simp [cat_rf, cat_i, cat_l, cat_r]) ?_
    refine j_aload_n X dL_law_977 (q := 978) rfl 4 rfl ?_
    refine j_aload_n X dL_law_978 (q := 979) rfl 6 rfl ?_
    refine j_iload X dL_law_979 (q := 981) rfl 1 rfl ?_
    refine j_iconst X (a := 1) dL_law_981 (q := 982) rfl ?_
    refine j_iadd X dL_law_982 (q := 983) rfl ?_
    refine j_sld X hX hbl hbA (by omega) (by omega) dL_law_983 (q := 984) rfl ?_
    rw [e1z]
    refine j_aload_n X dL_law_984 (q := 985) rfl 6 rfl ?_
    refine j_iload X dL_law_985 (q := 987) rfl 1 rfl ?_
    refine j_iconst X (a := 2) dL_law_987 (q := 988) rfl ?_
    refine j_iadd X dL_law_988 (q := 989) rfl ?_
    refine j_sld X hX hbl hbA (by omega) (by omega) dL_law_989 (q := 990) rfl ?_
    rw [e2z]
    refine j_callV X (As := [.int (iI (z1)), .int (iI (z2))]) (st := []) hMb.obj rfl (c_X4_expected hlt hMb hMI z1 hz1 z2 hz2) sv_L_143 (by decide) rfl (by first | decide | exact Nat.le_of_ble_eq_true rfl) dL_law_990 ⟨by show _ ≤ 601024; omega, by show _ ≤ 7293034; omega⟩ (fun _ _ h => h.elim) ?_
    rintro v9 w8 ⟨rfl, hM8, hF8⟩
    refine j_st (st := [.long (iL ((if exC ni T z1 z2 = 0 then errM T z1 z2 else 0)))]) ?_
    have hm1 : exC ni T z1 z2 ≠ 0 := fun q => hz0 (hcq.symm.trans q)
    rw [hcq] at hM8
    have hC8 := hCb.fr (c := 1) (by decide) hF8
    have ho8 := hF8 _ _ hob (by show (2 : Nat) ≠ 1; decide)
    have hoD8 := hF8 _ _ hoDb (by show (2 : Nat) ≠ 1; decide)
    refine j_lstore X (i := 7) dL_law_993 (by decide) (q := 995) rfl (lv' := [(7, .long (iL ((if exC ni T z1 z2 = 0 then errM T z1 z2 else 0)))), (6, .int (iI (exK ni S z1 z2))), (5, .int (iI (i))), (4, .ref (oD)), (3, .ref (o)), (2, .ref (am 0)), (1, .ref (ad 0 0)), (0, .ref (b))]) (by first | rfl | simp [cat_rf, cat_i, cat_l, cat_r]) ?_
    refine j_aload_n X dL_law_995 (q := 996) rfl 5 rfl ?_
    refine j_callV X (As := []) (st := []) hM8.obj rfl (c_X4_thrown0 hlt hM8) sv_L_92 (by decide) rfl (by decide) dL_law_996 ⟨by show _ ≤ 601024; omega, by show _ ≤ 7293034; omega⟩ (fun _ _ h => h.elim) ?_
    rintro v7 w7 ⟨rfl, rfl⟩
    refine j_st (st := [.int (iI (exK ni S z1 z2))]) ?_
    refine j_iload X dL_law_999 (q := 1001) rfl 1 rfl ?_
    refine j_icmp_eq X (tgt := 1006) dL_law_1001 (by decide) (q := 1004) rfl (by omega) (by omega) (fun c_1001 => ?_) (fun c_1001 => ?_)
    · skip
      refine j_iload X dL_law_1006 (q := 1008) rfl 1 rfl ?_
      refine j_if_ne X (tgt := 1022) dL_law_1008 (by decide) (q := 1011) rfl (by omega) (fun c_1008 => ?_) (fun c_1008 => ?_)
      · skip
        refine j_goto X (tgt := 1475) dL_law_1022 (by decide) ?_
        exact j_lv (nx _ _ _ ⟨ni, nc, nm, S, T, ad, am, _, f, g, hS.le (by omega) (by omega), hC8, hM8, ⟨ho8, hoD8⟩, rfl, rfl, by omega, by omega⟩) [2, 3, 4, 5, 6, 7] rfl
      · skip
        exact absurd c_1008 hz0
    · skip
      exact absurd rfl c_1001

set_option maxRecDepth 100000 in
set_option maxHeartbeats 4000000 in
theorem case_2 (X : Cx p l s m args meth cd ⟨RL, mn, ""⟩ code 9 ret D ca base) (hlt : l.stackTraces = false) {b L : Nat} {xs : Nat → Int32} (hX : va_X b L xs s s.heap) (hbl : b < s.heap.size) (hbA : ¬ base ≤ b) (hL : L ≤ 2560) {i c : Int} (hi : 0 ≤ i ∧ i + 5 ≤ L) (hc : 0 ≤ c ∧ c ≤ 511) {o oD ax ay : Nat} (hbo : base ≤ o) (hbD : base ≤ oD) (hLI : LI base ca ax ay o oD c k n w) (nx : ∀ (k' n' : Nat) (w' : Wd), LI base ca ax ay o oD (c + 1) k' n' w' → J p l e room_1 s m args below meth cd Q D base 9 k' n' 1475 [(5, .int (iI (i))), (4, .ref (oD)), (3, .ref (o)), (2, .ref (ay)), (1, .ref (ax)), (0, .ref (b))] [] w') : J p l e room_1 s m args below meth cd Q D base 9 k n 320 [(5, .int (iI (i))), (4, .ref (oD)), (3, .ref (o)), (2, .ref (ay)), (1, .ref (ax)), (0, .ref (b))] [] w := by
  obtain ⟨ni, nc, nm, S, T, ad, am, th, f, g, hS, hC, hM, ⟨ho, hoD⟩, rfl, rfl, hk, hn⟩ := hLI
  have hMI := hS.MI hc.2
  have hIC := hS.1
  obtain ⟨hn0, hnc0, hnm0, e3, e4, e5, -, e7, e8⟩ := hIC.top
  obtain ⟨z1, e1z, hz1⟩ := i32 (xs (i + 1).toNat)
  have hcq : psC z1 = psC z1 := rfl
  have hcb : 0 ≤ psC z1 ∧ psC z1 ≤ 3 := by unfold psC; (repeat' split) <;> omega
  refine j_aload_n X dL_law_320 (q := 321) rfl 4 rfl ?_
  refine j_aload_n X dL_law_321 (q := 322) rfl 5 rfl ?_
  refine j_iload X dL_law_322 (q := 324) rfl 0 rfl ?_
  refine j_iconst X (a := 1) dL_law_324 (q := 325) rfl ?_
  refine j_iadd X dL_law_325 (q := 326) rfl ?_
  refine j_sld X hX hbl hbA (by omega) (by omega) dL_law_326 (q := 327) rfl ?_
  rw [e1z]
  refine j_aload_n X dL_law_327 (q := 328) rfl 2 rfl ?_
  refine j_callW X (As := [.ref (ad 0 0), .int (iI (z1)), .ref (o)]) (st := []) (c_L_pass hlt hC hIC o f ho hbo z1 hz1) sw_L_100 (by decide) rfl (by decide) dL_law_328 ⟨by show _ ≤ 601024; omega, by show _ ≤ 7293034; omega⟩ ?_
  rintro v9 w9 ⟨rfl, hN, hE⟩
  refine j_st (st := [.int (iI (psC z1))]) ?_
  rcases Classical.em (psC z1 = 0) with hz0 | hz0
  · skip
    obtain ⟨w1, f9, hC1, hw1, hf9, rfl⟩ := hN hz0
    have hM1 := hM.fr (c := 0) (by decide) hw1
    have ho1 := hw1 _ _ ho (by show (2 : Nat) ≠ 0; decide)
    have hoD1 := hw1 _ _ hoD (by show (2 : Nat) ≠ 0; decide)
    have hFs : Fr 2 w1 (wu w1 o (eLong ca f9)) := Fr.set ho1 rfl
    have hCb := hC1.fr (c := 2) (by decide) hFs
    have hMb := hM1.fr (c := 2) (by decide) hFs
    have hwn : (wu w1 o (eLong ca f9)) o = some (eLong ca f9) := wu_s
    have hoDb : (wu w1 o (eLong ca f9)) oD = some (eDbl ca g) := (wu_n (ne_of_cell hoD1 ho1 e_DL)).trans hoD1
    have hob := hwn
    generalize (wu w1 o (eLong ca f9)) = wb at hCb hMb hob hoDb ⊢
    refine j_istore X (i := 6) dL_law_331 (by decide) (q := 333) rfl (lv' := [(6, .int (iI (psC z1))), (5, .int (iI (i))), (4, .ref (oD)), (3, .ref (o)), (2, .ref (am 0)), (1, .ref (ad 0 0)), (0, .ref (b))]) (by first | rfl | simp [cat_rf, cat_i, cat_l, cat_r]) ?_
    refine j_aload_n X dL_law_333 (q := 334) rfl 4 rfl ?_
    refine j_aload_n X dL_law_334 (q := 335) rfl 6 rfl ?_
    refine j_iload X dL_law_335 (q := 337) rfl 1 rfl ?_
    refine j_iconst X (a := 1) dL_law_337 (q := 338) rfl ?_
    refine j_iadd X dL_law_338 (q := 339) rfl ?_
    refine j_sld X hX hbl hbA (by omega) (by omega) dL_law_339 (q := 340) rfl ?_
    rw [e1z]
    refine j_callV X (As := [.int (iI (z1))]) (st := []) hMb.obj rfl (c_X4_pass hlt hMb hMI z1 hz1) sv_L_103 (by decide) rfl (by first | decide | exact Nat.le_of_ble_eq_true rfl) dL_law_340 ⟨by show _ ≤ 601024; omega, by show _ ≤ 7293034; omega⟩ (fun _ _ h => h.elim) ?_
    rintro v9 w8 ⟨rfl, hM8, hF8⟩
    refine j_st (st := [.int (iI ((if psC z1 = 0 then T 1 0 + z1 else 0)))]) ?_
    have hm0 : psC z1 = 0 := hcq.trans hz0
    rw [if_pos hm0] at hM8
    have hans : (if psC z1 = 0 then T 1 0 + z1 else 0) = S 7 0 + z1 := by rw [if_pos hz0, hS.top.2.1]
    rw [hans]
    rw [hcq] at hM8
    have hC8 := hCb.fr (c := 1) (by decide) hF8
    have ho8 := hF8 _ _ hob (by show (2 : Nat) ≠ 1; decide)
    have hoD8 := hF8 _ _ hoDb (by show (2 : Nat) ≠ 1; decide)
    refine j_istore X (i := 7) dL_law_343 (by decide) (q := 345) rfl (lv' := [(7, .int (iI (S 7 0 + z1))), (6, .int (iI (psC z1))), (5, .int (iI (i))), (4, .ref (oD)), (3, .ref (o)), (2, .ref (am 0)), (1, .ref (ad 0 0)), (0, .ref (b))]) (by first | rfl | simp [cat_rf, cat_i, cat_l, cat_r]) ?_
    refine j_aload_n X dL_law_345 (q := 346) rfl 5 rfl ?_
    refine j_callV X (As := []) (st := []) hM8.obj rfl (c_X4_thrown0 hlt hM8) sv_L_92 (by decide) rfl (by decide) dL_law_346 ⟨by show _ ≤ 601024; omega, by show _ ≤ 7293034; omega⟩ (fun _ _ h => h.elim) ?_
    rintro v7 w7 ⟨rfl, rfl⟩
    refine j_st (st := [.int (iI (psC z1))]) ?_
    refine j_iload X dL_law_349 (q := 351) rfl 1 rfl ?_
    refine j_icmp_eq X (tgt := 356) dL_law_351 (by decide) (q := 354) rfl (by omega) (by omega) (fun c_351 => ?_) (fun c_351 => ?_)
    · skip
      refine j_iload X dL_law_356 (q := 358) rfl 1 rfl ?_
      refine j_if_ne X (tgt := 373) dL_law_358 (by decide) (q := 361) rfl (by omega) (fun c_358 => ?_) (fun c_358 => ?_)
      · skip
        exact absurd hz0 c_358
      · skip
        refine j_aload_n X dL_law_361 (q := 362) rfl 4 rfl ?_
        refine j_iconst X (a := 0) dL_law_362 (q := 363) rfl ?_
        refine j_lald X ho8 ⟨by decide, by decide⟩ (by decide) dL_law_363 (q := 364) rfl ?_
        rw [show f9 (Int.toNat 0) = (iI (S 7 0 + z1)).toInt64 from hf9]
        refine j_iload X dL_law_364 (q := 366) rfl 0 rfl ?_
        refine j_i2lR X dL_law_366 (q := 367) rfl ?_
        refine j_lcmpE X dL_law_367 (q := 368) rfl ?_
        refine j_if_eq X (tgt := 373) dL_law_368 (by decide) (q := 371) rfl (by omega) (fun c_368 => ?_) (fun c_368 => ?_)
        · skip
          refine j_goto X (tgt := 1475) dL_law_373 (by decide) ?_
          exact j_lv (nx _ _ _ ⟨ni, nc, nm, up S 7 0 (S 7 0 + z1), up T 1 0 (T 1 0 + z1), ad, am, _, f9, g, hS.pass hc.2 (by unfold psC at hz0; split at hz0; assumption; cases hz0), hC8, hM8, ⟨ho8, hoD8⟩, rfl, rfl, by omega, by omega⟩) [2, 3, 4, 5, 6, 7] rfl
        · skip
          exact absurd rfl c_368
    · skip
      exact absurd rfl c_351
  · skip
    obtain rfl := hE hz0
    have hCb := hC
    have hMb := hM
    have hob := ho
    have hoDb := hoD
    refine j_istore X (i := 6) dL_law_331 (by decide) (q := 333) rfl (lv' := [(6, .int (iI (psC z1))), (5, .int (iI (i))), (4, .ref (oD)), (3, .ref (o)), (2, .ref (am 0)), (1, .ref (ad 0 0)), (0, .ref (b))]) (by first | rfl | simp [cat_rf, cat_i, cat_l, cat_r]) ?_
    refine j_aload_n X dL_law_333 (q := 334) rfl 4 rfl ?_
    refine j_aload_n X dL_law_334 (q := 335) rfl 6 rfl ?_
    refine j_iload X dL_law_335 (q := 337) rfl 1 rfl ?_
    refine j_iconst X (a := 1) dL_law_337 (q := 338) rfl ?_
    refine j_iadd X dL_law_338 (q := 339) rfl ?_
    refine j_sld X hX hbl hbA (by omega) (by omega) dL_law_339 (q := 340) rfl ?_
    rw [e1z]
    refine j_callV X (As := [.int (iI (z1))]) (st := []) hMb.obj rfl (c_X4_pass hlt hMb hMI z1 hz1) sv_L_103 (by decide) rfl (by first | decide | exact Nat.le_of_ble_eq_true rfl) dL_law_340 ⟨by show _ ≤ 601024; omega, by show _ ≤ 7293034; omega⟩ (fun _ _ h => h.elim) ?_
    rintro v9 w8 ⟨rfl, hM8, hF8⟩
    refine j_st (st := [.int (iI ((if psC z1 = 0 then T 1 0 + z1 else 0)))]) ?_
    have hm1 : psC z1 ≠ 0 := fun q => hz0 (hcq.symm.trans q)
    rw [if_neg hm1] at hM8
    rw [hcq] at hM8
    have hC8 := hCb.fr (c := 1) (by decide) hF8
    have ho8 := hF8 _ _ hob (by show (2 : Nat) ≠ 1; decide)
    have hoD8 := hF8 _ _ hoDb (by show (2 : Nat) ≠ 1; decide)
    refine j_istore X (i := 7) dL_law_343 (by decide) (q := 345) rfl (lv' := [(7, .int (iI ((if psC z1 = 0 then T 1 0 + z1 else 0)))), (6, .int (iI (psC z1))), (5, .int (iI (i))), (4, .ref (oD)), (3, .ref (o)), (2, .ref (am 0)), (1, .ref (ad 0 0)), (0, .ref (b))]) (by first | rfl | simp [cat_rf, cat_i, cat_l, cat_r]) ?_
    refine j_aload_n X dL_law_345 (q := 346) rfl 5 rfl ?_
    refine j_callV X (As := []) (st := []) hM8.obj rfl (c_X4_thrown0 hlt hM8) sv_L_92 (by decide) rfl (by decide) dL_law_346 ⟨by show _ ≤ 601024; omega, by show _ ≤ 7293034; omega⟩ (fun _ _ h => h.elim) ?_
    rintro v7 w7 ⟨rfl, rfl⟩
    refine j_st (st := [.int (iI (psC z1))]) ?_
    refine j_iload X dL_law_349 (q := 351) rfl 1 rfl ?_
    refine j_icmp_eq X (tgt := 356) dL_law_351 (by decide) (q := 354) rfl (by omega) (by omega) (fun c_351 => ?_) (fun c_351 => ?_)
    · skip
      refine j_iload X dL_law_356 (q := 358) rfl 1 rfl ?_
      refine j_if_ne X (tgt := 373) dL_law_358 (by decide) (q := 361) rfl (by omega) (fun c_358 => ?_) (fun c_358 => ?_)
      · skip
        refine j_goto X (tgt := 1475) dL_law_373 (by decide) ?_
        exact j_lv (nx _ _ _ ⟨ni, nc, nm, S, T, ad, am, _, f, g, hS.le (by omega) (by omega), hC8, hM8, ⟨ho8, hoD8⟩, rfl, rfl, by omega, by omega⟩) [2, 3, 4, 5, 6, 7] rfl
      · skip
        exact absurd c_358 hz0
    · skip
      exact absurd rfl c_351

set_option maxRecDepth 100000 in
set_option maxHeartbeats 4000000 in
theorem case_1 (X : Cx p l s m args meth cd ⟨RL, mn, ""⟩ code 9 ret D ca base) (hlt : l.stackTraces = false) {b L : Nat} {xs : Nat → Int32} (hX : va_X b L xs s s.heap) (hbl : b < s.heap.size) (hbA : ¬ base ≤ b) (hL : L ≤ 2560) {i c : Int} (hi : 0 ≤ i ∧ i + 5 ≤ L) (hc : 0 ≤ c ∧ c ≤ 511) {o oD ax ay : Nat} (hbo : base ≤ o) (hbD : base ≤ oD) (hLI : LI base ca ax ay o oD c k n w) (nx : ∀ (k' n' : Nat) (w' : Wd), LI base ca ax ay o oD (c + 1) k' n' w' → J p l e room_1 s m args below meth cd Q D base 9 k' n' 1475 [(5, .int (iI (i))), (4, .ref (oD)), (3, .ref (o)), (2, .ref (ay)), (1, .ref (ax)), (0, .ref (b))] [] w') : J p l e room_1 s m args below meth cd Q D base 9 k n 252 [(5, .int (iI (i))), (4, .ref (oD)), (3, .ref (o)), (2, .ref (ay)), (1, .ref (ax)), (0, .ref (b))] [] w := by
  obtain ⟨ni, nc, nm, S, T, ad, am, th, f, g, hS, hC, hM, ⟨ho, hoD⟩, rfl, rfl, hk, hn⟩ := hLI
  have hMI := hS.MI hc.2
  have hIC := hS.1
  obtain ⟨hn0, hnc0, hnm0, e3, e4, e5, -, e7, e8⟩ := hIC.top
  obtain ⟨z1, e1z, hz1⟩ := i32 (xs (i + 1).toNat)
  obtain ⟨z2, e2z, hz2⟩ := i32 (xs (i + 2).toNat)
  have hcq : rfC ni T z1 z2 = rfK ni S z1 z2 := by
    unfold rfC rfK
    by_cases hk9 : (0 ≤ z1 ∧ z1 < ni) ∧ (z2 = -1 ∨ (0 ≤ z2 ∧ z2 < ni))
    · rw [if_pos hk9, if_pos hk9, hS.inCh (show z2 < ni by omega)]
      have hb9 := inCh_b (S 14) 12 z2 z1
      by_cases c0 : inCh (S 14) 12 z2 z1 = 0
      · rw [if_pos c0, if_neg (by omega)]
      · rw [if_neg c0, if_pos ⟨(fun q => c0 (inCh_n (by omega))), by omega⟩]
    · rw [if_neg hk9, if_neg hk9]
  have hcb : 0 ≤ rfK ni S z1 z2 ∧ rfK ni S z1 z2 ≤ 3 := by unfold rfK; (repeat' split) <;> omega
  refine j_aload_n X dL_law_252 (q := 253) rfl 4 rfl ?_
  refine j_aload_n X dL_law_253 (q := 254) rfl 5 rfl ?_
  refine j_iload X dL_law_254 (q := 256) rfl 0 rfl ?_
  refine j_iconst X (a := 1) dL_law_256 (q := 257) rfl ?_
  refine j_iadd X dL_law_257 (q := 258) rfl ?_
  refine j_sld X hX hbl hbA (by omega) (by omega) dL_law_258 (q := 259) rfl ?_
  rw [e1z]
  refine j_aload_n X dL_law_259 (q := 260) rfl 5 rfl ?_
  refine j_iload X dL_law_260 (q := 262) rfl 0 rfl ?_
  refine j_iconst X (a := 2) dL_law_262 (q := 263) rfl ?_
  refine j_iadd X dL_law_263 (q := 264) rfl ?_
  refine j_sld X hX hbl hbA (by omega) (by omega) dL_law_264 (q := 265) rfl ?_
  rw [e2z]
  refine j_aload_n X dL_law_265 (q := 266) rfl 2 rfl ?_
  refine j_callW X (As := [.ref (ad 0 0), .int (iI (z1)), .int (iI (z2)), .ref (o)]) (st := []) (c_L_refer hlt hC hIC o f ho hbo z1 hz1 z2 hz2) sw_L_96 (by decide) rfl (by decide) dL_law_266 ⟨by show _ ≤ 601024; omega, by show _ ≤ 7293034; omega⟩ ?_
  rintro v9 w9 ⟨rfl, hN, hE⟩
  refine j_st (st := [.int (iI (rfK ni S z1 z2))]) ?_
  rcases Classical.em (rfK ni S z1 z2 = 0) with hz0 | hz0
  · skip
    obtain ⟨w1, f9, hC1, hw1, hf9, rfl⟩ := hN hz0
    have hM1 := hM.fr (c := 0) (by decide) hw1
    have ho1 := hw1 _ _ ho (by show (2 : Nat) ≠ 0; decide)
    have hoD1 := hw1 _ _ hoD (by show (2 : Nat) ≠ 0; decide)
    have hFs : Fr 2 w1 (wu w1 o (eLong ca f9)) := Fr.set ho1 rfl
    have hCb := hC1.fr (c := 2) (by decide) hFs
    have hMb := hM1.fr (c := 2) (by decide) hFs
    have hwn : (wu w1 o (eLong ca f9)) o = some (eLong ca f9) := wu_s
    have hoDb : (wu w1 o (eLong ca f9)) oD = some (eDbl ca g) := (wu_n (ne_of_cell hoD1 ho1 e_DL)).trans hoD1
    have hob := hwn
    generalize (wu w1 o (eLong ca f9)) = wb at hCb hMb hob hoDb ⊢
    refine j_istore X (i := 6) dL_law_269 (by decide) (q := 271) rfl (lv' := [(6, .int (iI (rfK ni S z1 z2))), (5, .int (iI (i))), (4, .ref (oD)), (3, .ref (o)), (2, .ref (am 0)), (1, .ref (ad 0 0)), (0, .ref (b))]) (by first | rfl | simp [cat_rf, cat_i, cat_l, cat_r]) ?_
    refine j_aload_n X dL_law_271 (q := 272) rfl 4 rfl ?_
    refine j_aload_n X dL_law_272 (q := 273) rfl 6 rfl ?_
    refine j_iload X dL_law_273 (q := 275) rfl 1 rfl ?_
    refine j_iconst X (a := 1) dL_law_275 (q := 276) rfl ?_
    refine j_iadd X dL_law_276 (q := 277) rfl ?_
    refine j_sld X hX hbl hbA (by omega) (by omega) dL_law_277 (q := 278) rfl ?_
    rw [e1z]
    refine j_aload_n X dL_law_278 (q := 279) rfl 6 rfl ?_
    refine j_iload X dL_law_279 (q := 281) rfl 1 rfl ?_
    refine j_iconst X (a := 2) dL_law_281 (q := 282) rfl ?_
    refine j_iadd X dL_law_282 (q := 283) rfl ?_
    refine j_sld X hX hbl hbA (by omega) (by omega) dL_law_283 (q := 284) rfl ?_
    rw [e2z]
    refine j_callV X (As := [.int (iI (z1)), .int (iI (z2))]) (st := []) hMb.obj rfl (c_X4_refer hlt hMb hMI z1 hz1 z2 hz2) sv_L_99 (by decide) rfl (by first | decide | exact Nat.le_of_ble_eq_true rfl) dL_law_284 ⟨by show _ ≤ 601024; omega, by show _ ≤ 7293034; omega⟩ (fun _ _ h => h.elim) ?_
    rintro v9 w8 ⟨rfl, hM8, hF8⟩
    refine j_st (st := [.int (iI ((if rfC ni T z1 z2 = 0 then T 4 z1 else 0)))]) ?_
    have hm0 : rfC ni T z1 z2 = 0 := hcq.trans hz0
    rw [if_pos hm0] at hM8
    have hq := (show ((0 ≤ z1 ∧ z1 < ni) ∧ (z2 = -1 ∨ (0 ≤ z2 ∧ z2 < ni))) ∧ inCh (S 14) 12 z2 z1 = 0 from by unfold rfK at hz0; split at hz0; (next q => split at hz0; (next q2 => exact ⟨q, q2⟩); cases hz0); cases hz0)
    have hans : (if rfC ni T z1 z2 = 0 then T 4 z1 else 0) = S 14 z1 := by
      have hq := (show ((0 ≤ z1 ∧ z1 < ni) ∧ (z2 = -1 ∨ (0 ≤ z2 ∧ z2 < ni))) ∧ inCh (S 14) 12 z2 z1 = 0 from by unfold rfK at hz0; split at hz0; (next q => split at hz0; (next q2 => exact ⟨q, q2⟩); cases hz0); cases hz0)
      rw [if_pos hm0]; exact (hS.col hq.1.1.1 hq.1.1.2).1
    rw [hans]
    rw [hcq] at hM8
    have hC8 := hCb.fr (c := 1) (by decide) hF8
    have ho8 := hF8 _ _ hob (by show (2 : Nat) ≠ 1; decide)
    have hoD8 := hF8 _ _ hoDb (by show (2 : Nat) ≠ 1; decide)
    refine j_istore X (i := 7) dL_law_287 (by decide) (q := 289) rfl (lv' := [(7, .int (iI (S 14 z1))), (6, .int (iI (rfK ni S z1 z2))), (5, .int (iI (i))), (4, .ref (oD)), (3, .ref (o)), (2, .ref (am 0)), (1, .ref (ad 0 0)), (0, .ref (b))]) (by first | rfl | simp [cat_rf, cat_i, cat_l, cat_r]) ?_
    refine j_aload_n X dL_law_289 (q := 290) rfl 5 rfl ?_
    refine j_callV X (As := []) (st := []) hM8.obj rfl (c_X4_thrown0 hlt hM8) sv_L_92 (by decide) rfl (by decide) dL_law_290 ⟨by show _ ≤ 601024; omega, by show _ ≤ 7293034; omega⟩ (fun _ _ h => h.elim) ?_
    rintro v7 w7 ⟨rfl, rfl⟩
    refine j_st (st := [.int (iI (rfK ni S z1 z2))]) ?_
    refine j_iload X dL_law_293 (q := 295) rfl 1 rfl ?_
    refine j_icmp_eq X (tgt := 300) dL_law_295 (by decide) (q := 298) rfl (by omega) (by omega) (fun c_295 => ?_) (fun c_295 => ?_)
    · skip
      refine j_iload X dL_law_300 (q := 302) rfl 1 rfl ?_
      refine j_if_ne X (tgt := 317) dL_law_302 (by decide) (q := 305) rfl (by omega) (fun c_302 => ?_) (fun c_302 => ?_)
      · skip
        exact absurd hz0 c_302
      · skip
        refine j_aload_n X dL_law_305 (q := 306) rfl 4 rfl ?_
        refine j_iconst X (a := 0) dL_law_306 (q := 307) rfl ?_
        refine j_lald X ho8 ⟨by decide, by decide⟩ (by decide) dL_law_307 (q := 308) rfl ?_
        rw [show f9 (Int.toNat 0) = (iI (S 14 z1)).toInt64 from hf9]
        refine j_iload X dL_law_308 (q := 310) rfl 0 rfl ?_
        refine j_i2lR X dL_law_310 (q := 311) rfl ?_
        refine j_lcmpE X dL_law_311 (q := 312) rfl ?_
        refine j_if_eq X (tgt := 317) dL_law_312 (by decide) (q := 315) rfl (by omega) (fun c_312 => ?_) (fun c_312 => ?_)
        · skip
          refine j_goto X (tgt := 1475) dL_law_317 (by decide) ?_
          exact j_lv (nx _ _ _ ⟨ni, nc, nm, up S 14 z1 z2, up T 4 z1 z2, ad, am, _, f9, g, hS.refer hc.2 hq.1.1 hq.1.2 hq.2, hC8, hM8, ⟨ho8, hoD8⟩, rfl, rfl, by omega, by omega⟩) [2, 3, 4, 5, 6, 7] rfl
        · skip
          exact absurd rfl c_312
    · skip
      exact absurd rfl c_295
  · skip
    obtain rfl := hE hz0
    have hCb := hC
    have hMb := hM
    have hob := ho
    have hoDb := hoD
    refine j_istore X (i := 6) dL_law_269 (by decide) (q := 271) rfl (lv' := [(6, .int (iI (rfK ni S z1 z2))), (5, .int (iI (i))), (4, .ref (oD)), (3, .ref (o)), (2, .ref (am 0)), (1, .ref (ad 0 0)), (0, .ref (b))]) (by first | rfl | simp [cat_rf, cat_i, cat_l, cat_r]) ?_
    refine j_aload_n X dL_law_271 (q := 272) rfl 4 rfl ?_
    refine j_aload_n X dL_law_272 (q := 273) rfl 6 rfl ?_
    refine j_iload X dL_law_273 (q := 275) rfl 1 rfl ?_
    refine j_iconst X (a := 1) dL_law_275 (q := 276) rfl ?_
    refine j_iadd X dL_law_276 (q := 277) rfl ?_
    refine j_sld X hX hbl hbA (by omega) (by omega) dL_law_277 (q := 278) rfl ?_
    rw [e1z]
    refine j_aload_n X dL_law_278 (q := 279) rfl 6 rfl ?_
    refine j_iload X dL_law_279 (q := 281) rfl 1 rfl ?_
    refine j_iconst X (a := 2) dL_law_281 (q := 282) rfl ?_
    refine j_iadd X dL_law_282 (q := 283) rfl ?_
    refine j_sld X hX hbl hbA (by omega) (by omega) dL_law_283 (q := 284) rfl ?_
    rw [e2z]
    refine j_callV X (As := [.int (iI (z1)), .int (iI (z2))]) (st := []) hMb.obj rfl (c_X4_refer hlt hMb hMI z1 hz1 z2 hz2) sv_L_99 (by decide) rfl (by first | decide | exact Nat.le_of_ble_eq_true rfl) dL_law_284 ⟨by show _ ≤ 601024; omega, by show _ ≤ 7293034; omega⟩ (fun _ _ h => h.elim) ?_
    rintro v9 w8 ⟨rfl, hM8, hF8⟩
    refine j_st (st := [.int (iI ((if rfC ni T z1 z2 = 0 then T 4 z1 else 0)))]) ?_
    have hm1 : rfC ni T z1 z2 ≠ 0 := fun q => hz0 (hcq.symm.trans q)
    rw [if_neg hm1] at hM8
    rw [hcq] at hM8
    have hC8 := hCb.fr (c := 1) (by decide) hF8
    have ho8 := hF8 _ _ hob (by show (2 : Nat) ≠ 1; decide)
    have hoD8 := hF8 _ _ hoDb (by show (2 : Nat) ≠ 1; decide)
    refine j_istore X (i := 7) dL_law_287 (by decide) (q := 289) rfl (lv' := [(7, .int (iI ((if rfC ni T z1 z2 = 0 then T 4 z1 else 0)))), (6, .int (iI (rfK ni S z1 z2))), (5, .int (iI (i))), (4, .ref (oD)), (3, .ref (o)), (2, .ref (am 0)), (1, .ref (ad 0 0)), (0, .ref (b))]) (by first | rfl | simp [cat_rf, cat_i, cat_l, cat_r]) ?_
    refine j_aload_n X dL_law_289 (q := 290) rfl 5 rfl ?_
    refine j_callV X (As := []) (st := []) hM8.obj rfl (c_X4_thrown0 hlt hM8) sv_L_92 (by decide) rfl (by decide) dL_law_290 ⟨by show _ ≤ 601024; omega, by show _ ≤ 7293034; omega⟩ (fun _ _ h => h.elim) ?_
    rintro v7 w7 ⟨rfl, rfl⟩
    refine j_st (st := [.int (iI (rfK ni S z1 z2))]) ?_
    refine j_iload X dL_law_293 (q := 295) rfl 1 rfl ?_
    refine j_icmp_eq X (tgt := 300) dL_law_295 (by decide) (q := 298) rfl (by omega) (by omega) (fun c_295 => ?_) (fun c_295 => ?_)
    · skip
      refine j_iload X dL_law_300 (q := 302) rfl 1 rfl ?_
      refine j_if_ne X (tgt := 317) dL_law_302 (by decide) (q := 305) rfl (by omega) (fun c_302 => ?_) (fun c_302 => ?_)
      · skip
        refine j_goto X (tgt := 1475) dL_law_317 (by decide) ?_
        exact j_lv (nx _ _ _ ⟨ni, nc, nm, S, T, ad, am, _, f, g, hS.le (by omega) (by omega), hC8, hM8, ⟨ho8, hoD8⟩, rfl, rfl, by omega, by omega⟩) [2, 3, 4, 5, 6, 7] rfl
      · skip
        exact absurd c_302 hz0
    · skip
      exact absurd rfl c_295

set_option maxRecDepth 100000 in
set_option maxHeartbeats 4000000 in
theorem case_0 (X : Cx p l s m args meth cd ⟨RL, mn, ""⟩ code 9 ret D ca base) (hlt : l.stackTraces = false) {b L : Nat} {xs : Nat → Int32} (hX : va_X b L xs s s.heap) (hbl : b < s.heap.size) (hbA : ¬ base ≤ b) (hL : L ≤ 2560) {i c : Int} (hi : 0 ≤ i ∧ i + 5 ≤ L) (hc : 0 ≤ c ∧ c ≤ 511) {o oD ax ay : Nat} (hbo : base ≤ o) (hbD : base ≤ oD) (hLI : LI base ca ax ay o oD c k n w) (nx : ∀ (k' n' : Nat) (w' : Wd), LI base ca ax ay o oD (c + 1) k' n' w' → J p l e room_1 s m args below meth cd Q D base 9 k' n' 1475 [(5, .int (iI (i))), (4, .ref (oD)), (3, .ref (o)), (2, .ref (ay)), (1, .ref (ax)), (0, .ref (b))] [] w') : J p l e room_1 s m args below meth cd Q D base 9 k n 160 [(5, .int (iI (i))), (4, .ref (oD)), (3, .ref (o)), (2, .ref (ay)), (1, .ref (ax)), (0, .ref (b))] [] w := by
  obtain ⟨ni, nc, nm, S, T, ad, am, th, f, g, hS, hC, hM, ⟨ho, hoD⟩, rfl, rfl, hk, hn⟩ := hLI
  have hMI := hS.MI hc.2
  have hIC := hS.1
  obtain ⟨hn0, hnc0, hnm0, e3, e4, e5, -, e7, e8⟩ := hIC.top
  obtain ⟨z1, e1z, hz1⟩ := i32 (xs (i + 1).toNat)
  obtain ⟨z2, e2z, hz2⟩ := i32 (xs (i + 2).toNat)
  obtain ⟨z3, e3z, hz3⟩ := i32 (xs (i + 3).toNat)
  obtain ⟨z4, e4z, hz4⟩ := i32 (xs (i + 4).toNat)
  have hcq : tlC ni z1 z2 z3 z4 = tlC ni z1 z2 z3 z4 := rfl
  have hcb : 0 ≤ tlC ni z1 z2 z3 z4 ∧ tlC ni z1 z2 z3 z4 ≤ 3 := by unfold tlC; (repeat' split) <;> omega
  refine j_aload_n X dL_law_160 (q := 161) rfl 4 rfl ?_
  refine j_aload_n X dL_law_161 (q := 162) rfl 5 rfl ?_
  refine j_iload X dL_law_162 (q := 164) rfl 0 rfl ?_
  refine j_iconst X (a := 1) dL_law_164 (q := 165) rfl ?_
  refine j_iadd X dL_law_165 (q := 166) rfl ?_
  refine j_sld X hX hbl hbA (by omega) (by omega) dL_law_166 (q := 167) rfl ?_
  rw [e1z]
  refine j_aload_n X dL_law_167 (q := 168) rfl 5 rfl ?_
  refine j_iload X dL_law_168 (q := 170) rfl 0 rfl ?_
  refine j_iconst X (a := 2) dL_law_170 (q := 171) rfl ?_
  refine j_iadd X dL_law_171 (q := 172) rfl ?_
  refine j_sld X hX hbl hbA (by omega) (by omega) dL_law_172 (q := 173) rfl ?_
  rw [e2z]
  refine j_aload_n X dL_law_173 (q := 174) rfl 5 rfl ?_
  refine j_iload X dL_law_174 (q := 176) rfl 0 rfl ?_
  refine j_iconst X (a := 3) dL_law_176 (q := 177) rfl ?_
  refine j_iadd X dL_law_177 (q := 178) rfl ?_
  refine j_sld X hX hbl hbA (by omega) (by omega) dL_law_178 (q := 179) rfl ?_
  rw [e3z]
  refine j_aload_n X dL_law_179 (q := 180) rfl 5 rfl ?_
  refine j_iload X dL_law_180 (q := 182) rfl 0 rfl ?_
  refine j_iconst X (a := 4) dL_law_182 (q := 183) rfl ?_
  refine j_iadd X dL_law_183 (q := 184) rfl ?_
  refine j_sld X hX hbl hbA (by omega) (by omega) dL_law_184 (q := 185) rfl ?_
  rw [e4z]
  refine j_aload_n X dL_law_185 (q := 186) rfl 2 rfl ?_
  refine j_callW X (As := [.ref (ad 0 0), .int (iI (z1)), .int (iI (z2)), .int (iI (z3)), .int (iI (z4)), .ref (o)]) (st := []) (c_L_tell hlt hC hIC o f ho hbo z1 hz1 z2 hz2 z3 hz3 z4 hz4) sw_L_86 (by decide) rfl (by decide) dL_law_186 ⟨by show _ ≤ 601024; omega, by show _ ≤ 7293034; omega⟩ ?_
  rintro v9 w9 ⟨rfl, hN, hE⟩
  refine j_st (st := [.int (iI (tlC ni z1 z2 z3 z4))]) ?_
  rcases Classical.em (tlC ni z1 z2 z3 z4 = 0) with hz0 | hz0
  · skip
    obtain ⟨w1, f9, ⟨ad', hC1, had⟩, hw1, hf9, rfl⟩ := hN hz0
    have hM1 := hM.fr (c := 0) (by decide) hw1
    have ho1 := hw1 _ _ ho (by show (2 : Nat) ≠ 0; decide)
    have hoD1 := hw1 _ _ hoD (by show (2 : Nat) ≠ 0; decide)
    have hFs : Fr 2 w1 (wu w1 o (eLong ca f9)) := Fr.set ho1 rfl
    have hCb := hC1.fr (c := 2) (by decide) hFs
    have hMb := hM1.fr (c := 2) (by decide) hFs
    have hwn : (wu w1 o (eLong ca f9)) o = some (eLong ca f9) := wu_s
    have hoDb : (wu w1 o (eLong ca f9)) oD = some (eDbl ca g) := (wu_n (ne_of_cell hoD1 ho1 e_DL)).trans hoD1
    have hob := hwn
    generalize (wu w1 o (eLong ca f9)) = wb at hCb hMb hob hoDb ⊢
    refine j_istore X (i := 6) dL_law_189 (by decide) (q := 191) rfl (lv' := [(6, .int (iI (tlC ni z1 z2 z3 z4))), (5, .int (iI (i))), (4, .ref (oD)), (3, .ref (o)), (2, .ref (am 0)), (1, .ref (ad 0 0)), (0, .ref (b))]) (by first | rfl | simp [cat_rf, cat_i, cat_l, cat_r]) ?_
    refine j_aload_n X dL_law_191 (q := 192) rfl 4 rfl ?_
    refine j_aload_n X dL_law_192 (q := 193) rfl 6 rfl ?_
    refine j_iload X dL_law_193 (q := 195) rfl 1 rfl ?_
    refine j_iconst X (a := 1) dL_law_195 (q := 196) rfl ?_
    refine j_iadd X dL_law_196 (q := 197) rfl ?_
    refine j_sld X hX hbl hbA (by omega) (by omega) dL_law_197 (q := 198) rfl ?_
    rw [e1z]
    refine j_aload_n X dL_law_198 (q := 199) rfl 6 rfl ?_
    refine j_iload X dL_law_199 (q := 201) rfl 1 rfl ?_
    refine j_iconst X (a := 2) dL_law_201 (q := 202) rfl ?_
    refine j_iadd X dL_law_202 (q := 203) rfl ?_
    refine j_sld X hX hbl hbA (by omega) (by omega) dL_law_203 (q := 204) rfl ?_
    rw [e2z]
    refine j_aload_n X dL_law_204 (q := 205) rfl 6 rfl ?_
    refine j_iload X dL_law_205 (q := 207) rfl 1 rfl ?_
    refine j_iconst X (a := 3) dL_law_207 (q := 208) rfl ?_
    refine j_iadd X dL_law_208 (q := 209) rfl ?_
    refine j_sld X hX hbl hbA (by omega) (by omega) dL_law_209 (q := 210) rfl ?_
    rw [e3z]
    refine j_aload_n X dL_law_210 (q := 211) rfl 6 rfl ?_
    refine j_iload X dL_law_211 (q := 213) rfl 1 rfl ?_
    refine j_iconst X (a := 4) dL_law_213 (q := 214) rfl ?_
    refine j_iadd X dL_law_214 (q := 215) rfl ?_
    refine j_sld X hX hbl hbA (by omega) (by omega) dL_law_215 (q := 216) rfl ?_
    rw [e4z]
    refine j_callV X (As := [.int (iI (z1)), .int (iI (z2)), .int (iI (z3)), .int (iI (z4))]) (st := []) hMb.obj rfl (c_X4_tell hlt hMb hMI z1 z2 z3 z4 hz1 hz2 hz3 hz4) sv_L_91 (by decide) rfl (by first | decide | exact Nat.le_of_ble_eq_true rfl) dL_law_216 ⟨by show _ ≤ 601024; omega, by show _ ≤ 7293034; omega⟩ (fun _ _ h => h.elim) ?_
    rintro v9 w8 ⟨rfl, hM8, hF8⟩
    refine j_st (st := [.int (iI ((if tlC ni z1 z2 z3 z4 = 0 then ni else 0)))]) ?_
    have hm0 : tlC ni z1 z2 z3 z4 = 0 := hcq.trans hz0
    rw [if_pos hm0] at hM8
    have hq := (show (z1 = -1 ∨ (0 ≤ z1 ∧ z1 < ni)) ∧ ((1 ≤ z2 ∧ z2 ≤ 9999) ∧ (0 ≤ z3 ∧ z3 ≤ 999) ∧ (1 ≤ z4 ∧ z4 ≤ 999)) ∧ ni ≠ 12 from by unfold tlC at hz0; split at hz0; (next q => split at hz0; (next q2 => split at hz0; cases hz0; next q3 => exact ⟨q, q2, q3⟩); cases hz0); cases hz0)
    have hans : (if tlC ni z1 z2 z3 z4 = 0 then ni else 0) = ni := by rw [if_pos hz0]
    rw [hans]
    rw [hcq] at hM8
    have hC8 := hCb.fr (c := 1) (by decide) hF8
    have ho8 := hF8 _ _ hob (by show (2 : Nat) ≠ 1; decide)
    have hoD8 := hF8 _ _ hoDb (by show (2 : Nat) ≠ 1; decide)
    refine j_istore X (i := 7) dL_law_219 (by decide) (q := 221) rfl (lv' := [(7, .int (iI (ni))), (6, .int (iI (tlC ni z1 z2 z3 z4))), (5, .int (iI (i))), (4, .ref (oD)), (3, .ref (o)), (2, .ref (am 0)), (1, .ref (ad 0 0)), (0, .ref (b))]) (by first | rfl | simp [cat_rf, cat_i, cat_l, cat_r]) ?_
    refine j_aload_n X dL_law_221 (q := 222) rfl 5 rfl ?_
    refine j_callV X (As := []) (st := []) hM8.obj rfl (c_X4_thrown0 hlt hM8) sv_L_92 (by decide) rfl (by decide) dL_law_222 ⟨by show _ ≤ 601024; omega, by show _ ≤ 7293034; omega⟩ (fun _ _ h => h.elim) ?_
    rintro v7 w7 ⟨rfl, rfl⟩
    refine j_st (st := [.int (iI (tlC ni z1 z2 z3 z4))]) ?_
    refine j_iload X dL_law_225 (q := 227) rfl 1 rfl ?_
    refine j_icmp_eq X (tgt := 232) dL_law_227 (by decide) (q := 230) rfl (by omega) (by omega) (fun c_227 => ?_) (fun c_227 => ?_)
    · skip
      refine j_iload X dL_law_232 (q := 234) rfl 1 rfl ?_
      refine j_if_ne X (tgt := 249) dL_law_234 (by decide) (q := 237) rfl (by omega) (fun c_234 => ?_) (fun c_234 => ?_)
      · skip
        exact absurd hz0 c_234
      · skip
        refine j_aload_n X dL_law_237 (q := 238) rfl 4 rfl ?_
        refine j_iconst X (a := 0) dL_law_238 (q := 239) rfl ?_
        refine j_lald X ho8 ⟨by decide, by decide⟩ (by decide) dL_law_239 (q := 240) rfl ?_
        rw [show f9 (Int.toNat 0) = (iI (ni)).toInt64 from hf9]
        refine j_iload X dL_law_240 (q := 242) rfl 0 rfl ?_
        refine j_i2lR X dL_law_242 (q := 243) rfl ?_
        refine j_lcmpE X dL_law_243 (q := 244) rfl ?_
        refine j_if_eq X (tgt := 249) dL_law_244 (by decide) (q := 247) rfl (by omega) (fun c_244 => ?_) (fun c_244 => ?_)
        · skip
          refine j_goto X (tgt := 1475) dL_law_249 (by decide) ?_
          exact j_lv (nx _ _ _ ⟨ni + 1, nc, nm, tlS S ni z2 z3 z4 z1, tlM T ni z1 z2 z3 z4, ad', am, _, f9, g, hS.tell hc.2 hq.1 hq.2.1 (by omega), hC8, hM8, ⟨ho8, hoD8⟩, had, rfl, by omega, by omega⟩) [2, 3, 4, 5, 6, 7] rfl
        · skip
          exact absurd rfl c_244
    · skip
      exact absurd rfl c_227
  · skip
    obtain rfl := hE hz0
    have hCb := hC
    have hMb := hM
    have hob := ho
    have hoDb := hoD
    refine j_istore X (i := 6) dL_law_189 (by decide) (q := 191) rfl (lv' := [(6, .int (iI (tlC ni z1 z2 z3 z4))), (5, .int (iI (i))), (4, .ref (oD)), (3, .ref (o)), (2, .ref (am 0)), (1, .ref (ad 0 0)), (0, .ref (b))]) (by first | rfl | simp [cat_rf, cat_i, cat_l, cat_r]) ?_
    refine j_aload_n X dL_law_191 (q := 192) rfl 4 rfl ?_
    refine j_aload_n X dL_law_192 (q := 193) rfl 6 rfl ?_
    refine j_iload X dL_law_193 (q := 195) rfl 1 rfl ?_
    refine j_iconst X (a := 1) dL_law_195 (q := 196) rfl ?_
    refine j_iadd X dL_law_196 (q := 197) rfl ?_
    refine j_sld X hX hbl hbA (by omega) (by omega) dL_law_197 (q := 198) rfl ?_
    rw [e1z]
    refine j_aload_n X dL_law_198 (q := 199) rfl 6 rfl ?_
    refine j_iload X dL_law_199 (q := 201) rfl 1 rfl ?_
    refine j_iconst X (a := 2) dL_law_201 (q := 202) rfl ?_
    refine j_iadd X dL_law_202 (q := 203) rfl ?_
    refine j_sld X hX hbl hbA (by omega) (by omega) dL_law_203 (q := 204) rfl ?_
    rw [e2z]
    refine j_aload_n X dL_law_204 (q := 205) rfl 6 rfl ?_
    refine j_iload X dL_law_205 (q := 207) rfl 1 rfl ?_
    refine j_iconst X (a := 3) dL_law_207 (q := 208) rfl ?_
    refine j_iadd X dL_law_208 (q := 209) rfl ?_
    refine j_sld X hX hbl hbA (by omega) (by omega) dL_law_209 (q := 210) rfl ?_
    rw [e3z]
    refine j_aload_n X dL_law_210 (q := 211) rfl 6 rfl ?_
    refine j_iload X dL_law_211 (q := 213) rfl 1 rfl ?_
    refine j_iconst X (a := 4) dL_law_213 (q := 214) rfl ?_
    refine j_iadd X dL_law_214 (q := 215) rfl ?_
    refine j_sld X hX hbl hbA (by omega) (by omega) dL_law_215 (q := 216) rfl ?_
    rw [e4z]
    refine j_callV X (As := [.int (iI (z1)), .int (iI (z2)), .int (iI (z3)), .int (iI (z4))]) (st := []) hMb.obj rfl (c_X4_tell hlt hMb hMI z1 z2 z3 z4 hz1 hz2 hz3 hz4) sv_L_91 (by decide) rfl (by first | decide | exact Nat.le_of_ble_eq_true rfl) dL_law_216 ⟨by show _ ≤ 601024; omega, by show _ ≤ 7293034; omega⟩ (fun _ _ h => h.elim) ?_
    rintro v9 w8 ⟨rfl, hM8, hF8⟩
    refine j_st (st := [.int (iI ((if tlC ni z1 z2 z3 z4 = 0 then ni else 0)))]) ?_
    have hm1 : tlC ni z1 z2 z3 z4 ≠ 0 := fun q => hz0 (hcq.symm.trans q)
    rw [if_neg hm1] at hM8
    rw [hcq] at hM8
    have hC8 := hCb.fr (c := 1) (by decide) hF8
    have ho8 := hF8 _ _ hob (by show (2 : Nat) ≠ 1; decide)
    have hoD8 := hF8 _ _ hoDb (by show (2 : Nat) ≠ 1; decide)
    refine j_istore X (i := 7) dL_law_219 (by decide) (q := 221) rfl (lv' := [(7, .int (iI ((if tlC ni z1 z2 z3 z4 = 0 then ni else 0)))), (6, .int (iI (tlC ni z1 z2 z3 z4))), (5, .int (iI (i))), (4, .ref (oD)), (3, .ref (o)), (2, .ref (am 0)), (1, .ref (ad 0 0)), (0, .ref (b))]) (by first | rfl | simp [cat_rf, cat_i, cat_l, cat_r]) ?_
    refine j_aload_n X dL_law_221 (q := 222) rfl 5 rfl ?_
    refine j_callV X (As := []) (st := []) hM8.obj rfl (c_X4_thrown0 hlt hM8) sv_L_92 (by decide) rfl (by decide) dL_law_222 ⟨by show _ ≤ 601024; omega, by show _ ≤ 7293034; omega⟩ (fun _ _ h => h.elim) ?_
    rintro v7 w7 ⟨rfl, rfl⟩
    refine j_st (st := [.int (iI (tlC ni z1 z2 z3 z4))]) ?_
    refine j_iload X dL_law_225 (q := 227) rfl 1 rfl ?_
    refine j_icmp_eq X (tgt := 232) dL_law_227 (by decide) (q := 230) rfl (by omega) (by omega) (fun c_227 => ?_) (fun c_227 => ?_)
    · skip
      refine j_iload X dL_law_232 (q := 234) rfl 1 rfl ?_
      refine j_if_ne X (tgt := 249) dL_law_234 (by decide) (q := 237) rfl (by omega) (fun c_234 => ?_) (fun c_234 => ?_)
      · skip
        refine j_goto X (tgt := 1475) dL_law_249 (by decide) ?_
        exact j_lv (nx _ _ _ ⟨ni, nc, nm, S, T, ad, am, _, f, g, hS.le (by omega) (by omega), hC8, hM8, ⟨ho8, hoD8⟩, rfl, rfl, by omega, by omega⟩) [2, 3, 4, 5, 6, 7] rfl
      · skip
        exact absurd c_234 hz0
    · skip
      exact absurd rfl c_227

set_option maxRecDepth 100000 in
set_option maxHeartbeats 4000000 in
theorem case_6 (X : Cx p l s m args meth cd ⟨RL, mn, ""⟩ code 9 ret D ca base) (hlt : l.stackTraces = false) {b L : Nat} {xs : Nat → Int32} (hX : va_X b L xs s s.heap) (hbl : b < s.heap.size) (hbA : ¬ base ≤ b) (hL : L ≤ 2560) {i c : Int} (hi : 0 ≤ i ∧ i + 5 ≤ L) (hc : 0 ≤ c ∧ c ≤ 511) {o oD ax ay : Nat} (hbo : base ≤ o) (hbD : base ≤ oD) (hLI : LI base ca ax ay o oD c k n w) (nx : ∀ (k' n' : Nat) (w' : Wd), LI base ca ax ay o oD (c + 1) k' n' w' → J p l e room_1 s m args below meth cd Q D base 9 k' n' 1475 [(5, .int (iI (i))), (4, .ref (oD)), (3, .ref (o)), (2, .ref (ay)), (1, .ref (ax)), (0, .ref (b))] [] w') : J p l e room_1 s m args below meth cd Q D base 9 k n 482 [(5, .int (iI (i))), (4, .ref (oD)), (3, .ref (o)), (2, .ref (ay)), (1, .ref (ax)), (0, .ref (b))] [] w := by
  obtain ⟨ni, nc, nm, S, T, ad, am, th, f, g, hS, hC, hM, ⟨ho, hoD⟩, rfl, rfl, hk, hn⟩ := hLI
  have hMI := hS.MI hc.2
  have hIC := hS.1
  obtain ⟨hn0, hnc0, hnm0, e3, e4, e5, -, e7, e8⟩ := hIC.top
  obtain ⟨z1, e1z, hz1⟩ := i32 (xs (i + 1).toNat)
  have hcq : msC ni nm T z1 = msK ni nm S z1 := by
    unfold msC msK
    by_cases hk9 : 0 ≤ z1 ∧ z1 < ni
    · rw [if_pos hk9, if_pos hk9, hS.fof hk9.2]
      by_cases c0 : fof (S 14) (inF S) 12 z1 = -1 ∧ nm < 200
      · rw [if_pos c0, if_neg (by omega)]
      · rw [if_neg c0, if_pos (by omega)]
    · rw [if_neg hk9, if_neg hk9]
  have hcb : 0 ≤ msK ni nm S z1 ∧ msK ni nm S z1 ≤ 3 := by unfold msK; (repeat' split) <;> omega
  refine j_aload_n X dL_law_482 (q := 483) rfl 4 rfl ?_
  refine j_aload_n X dL_law_483 (q := 484) rfl 5 rfl ?_
  refine j_iload X dL_law_484 (q := 486) rfl 0 rfl ?_
  refine j_iconst X (a := 1) dL_law_486 (q := 487) rfl ?_
  refine j_iadd X dL_law_487 (q := 488) rfl ?_
  refine j_sld X hX hbl hbA (by omega) (by omega) dL_law_488 (q := 489) rfl ?_
  rw [e1z]
  refine j_aload_n X dL_law_489 (q := 490) rfl 2 rfl ?_
  refine j_callW X (As := [.ref (ad 0 0), .int (iI (z1)), .ref (o)]) (st := []) (c_L_measure hlt hC hIC o f ho hbo z1 hz1) sw_L_116 (by decide) rfl (by decide) dL_law_490 ⟨by show _ ≤ 601024; omega, by show _ ≤ 7293034; omega⟩ ?_
  rintro v9 w9 ⟨rfl, hN, hE⟩
  refine j_st (st := [.int (iI (msK ni nm S z1))]) ?_
  rcases Classical.em (msK ni nm S z1 = 0) with hz0 | hz0
  · skip
    obtain ⟨w1, f9, ⟨ad', hC1, had⟩, hw1, hf9, rfl⟩ := hN hz0
    have hM1 := hM.fr (c := 0) (by decide) hw1
    have ho1 := hw1 _ _ ho (by show (2 : Nat) ≠ 0; decide)
    have hoD1 := hw1 _ _ hoD (by show (2 : Nat) ≠ 0; decide)
    have hFs : Fr 2 w1 (wu w1 o (eLong ca f9)) := Fr.set ho1 rfl
    have hCb := hC1.fr (c := 2) (by decide) hFs
    have hMb := hM1.fr (c := 2) (by decide) hFs
    have hwn : (wu w1 o (eLong ca f9)) o = some (eLong ca f9) := wu_s
    have hoDb : (wu w1 o (eLong ca f9)) oD = some (eDbl ca g) := (wu_n (ne_of_cell hoD1 ho1 e_DL)).trans hoD1
    have hob := hwn
    generalize (wu w1 o (eLong ca f9)) = wb at hCb hMb hob hoDb ⊢
    refine j_istore X (i := 6) dL_law_493 (by decide) (q := 495) rfl (lv' := [(6, .int (iI (msK ni nm S z1))), (5, .int (iI (i))), (4, .ref (oD)), (3, .ref (o)), (2, .ref (am 0)), (1, .ref (ad 0 0)), (0, .ref (b))]) (by first | rfl | simp [cat_rf, cat_i, cat_l, cat_r]) ?_
    refine j_aload_n X dL_law_495 (q := 496) rfl 4 rfl ?_
    refine j_aload_n X dL_law_496 (q := 497) rfl 6 rfl ?_
    refine j_iload X dL_law_497 (q := 499) rfl 1 rfl ?_
    refine j_iconst X (a := 1) dL_law_499 (q := 500) rfl ?_
    refine j_iadd X dL_law_500 (q := 501) rfl ?_
    refine j_sld X hX hbl hbA (by omega) (by omega) dL_law_501 (q := 502) rfl ?_
    rw [e1z]
    refine j_callV X (As := [.int (iI (z1))]) (st := []) hMb.obj rfl (c_X4_measure hlt hMb hMI z1 hz1) sv_L_118 (by decide) rfl (by first | decide | exact Nat.le_of_ble_eq_true rfl) dL_law_502 ⟨by show _ ≤ 601024; omega, by show _ ≤ 7293034; omega⟩ (fun _ _ h => h.elim) ?_
    rintro v9 w8 ⟨rfl, hM8, hF8⟩
    refine j_st (st := [.int (iI ((if msC ni nm T z1 = 0 then nm else 0)))]) ?_
    have hm0 : msC ni nm T z1 = 0 := hcq.trans hz0
    rw [if_pos hm0] at hM8
    have hq := (show (0 ≤ z1 ∧ z1 < ni) ∧ fof (S 14) (inF S) 12 z1 = -1 ∧ nm < 200 from by unfold msK at hz0; split at hz0; (next q => split at hz0; (next q2 => exact ⟨q, q2⟩); cases hz0); cases hz0)
    have hl : 0 ≤ S 15 z1 := by
      have hne : inF S z1 ≠ 0 := fun q => by
        have h9 := hq.2.1
        rw [fof_e hq.1.1 q] at h9
        omega
      exact (tf_1 hne).1
    have hans : (if msC ni nm T z1 = 0 then nm else 0) = nm := by rw [if_pos hm0]
    rw [hans]
    rw [hcq] at hM8
    have hC8 := hCb.fr (c := 1) (by decide) hF8
    have ho8 := hF8 _ _ hob (by show (2 : Nat) ≠ 1; decide)
    have hoD8 := hF8 _ _ hoDb (by show (2 : Nat) ≠ 1; decide)
    refine j_istore X (i := 7) dL_law_505 (by decide) (q := 507) rfl (lv' := [(7, .int (iI (nm))), (6, .int (iI (msK ni nm S z1))), (5, .int (iI (i))), (4, .ref (oD)), (3, .ref (o)), (2, .ref (am 0)), (1, .ref (ad 0 0)), (0, .ref (b))]) (by first | rfl | simp [cat_rf, cat_i, cat_l, cat_r]) ?_
    refine j_aload_n X dL_law_507 (q := 508) rfl 5 rfl ?_
    refine j_callV X (As := []) (st := []) hM8.obj rfl (c_X4_thrown0 hlt hM8) sv_L_92 (by decide) rfl (by decide) dL_law_508 ⟨by show _ ≤ 601024; omega, by show _ ≤ 7293034; omega⟩ (fun _ _ h => h.elim) ?_
    rintro v7 w7 ⟨rfl, rfl⟩
    refine j_st (st := [.int (iI (msK ni nm S z1))]) ?_
    refine j_iload X dL_law_511 (q := 513) rfl 1 rfl ?_
    refine j_icmp_eq X (tgt := 518) dL_law_513 (by decide) (q := 516) rfl (by omega) (by omega) (fun c_513 => ?_) (fun c_513 => ?_)
    · skip
      refine j_iload X dL_law_518 (q := 520) rfl 1 rfl ?_
      refine j_if_ne X (tgt := 535) dL_law_520 (by decide) (q := 523) rfl (by omega) (fun c_520 => ?_) (fun c_520 => ?_)
      · skip
        exact absurd hz0 c_520
      · skip
        refine j_aload_n X dL_law_523 (q := 524) rfl 4 rfl ?_
        refine j_iconst X (a := 0) dL_law_524 (q := 525) rfl ?_
        refine j_lald X ho8 ⟨by decide, by decide⟩ (by decide) dL_law_525 (q := 526) rfl ?_
        rw [show f9 (Int.toNat 0) = (iI (nm)).toInt64 from hf9]
        refine j_iload X dL_law_526 (q := 528) rfl 0 rfl ?_
        refine j_i2lR X dL_law_528 (q := 529) rfl ?_
        refine j_lcmpE X dL_law_529 (q := 530) rfl ?_
        refine j_if_eq X (tgt := 535) dL_law_530 (by decide) (q := 533) rfl (by omega) (fun c_530 => ?_) (fun c_530 => ?_)
        · skip
          refine j_goto X (tgt := 1475) dL_law_535 (by decide) ?_
          exact j_lv (nx _ _ _ ⟨ni, nc, nm + 1, meS S nm z1, msM T nm z1, ad', am, _, f9, g, hS.measure hc.2 hq.1 hl hq.2.2, hC8, hM8, ⟨ho8, hoD8⟩, had, rfl, by omega, by omega⟩) [2, 3, 4, 5, 6, 7] rfl
        · skip
          exact absurd rfl c_530
    · skip
      exact absurd rfl c_513
  · skip
    obtain rfl := hE hz0
    have hCb := hC
    have hMb := hM
    have hob := ho
    have hoDb := hoD
    refine j_istore X (i := 6) dL_law_493 (by decide) (q := 495) rfl (lv' := [(6, .int (iI (msK ni nm S z1))), (5, .int (iI (i))), (4, .ref (oD)), (3, .ref (o)), (2, .ref (am 0)), (1, .ref (ad 0 0)), (0, .ref (b))]) (by first | rfl | simp [cat_rf, cat_i, cat_l, cat_r]) ?_
    refine j_aload_n X dL_law_495 (q := 496) rfl 4 rfl ?_
    refine j_aload_n X dL_law_496 (q := 497) rfl 6 rfl ?_
    refine j_iload X dL_law_497 (q := 499) rfl 1 rfl ?_
    refine j_iconst X (a := 1) dL_law_499 (q := 500) rfl ?_
    refine j_iadd X dL_law_500 (q := 501) rfl ?_
    refine j_sld X hX hbl hbA (by omega) (by omega) dL_law_501 (q := 502) rfl ?_
    rw [e1z]
    refine j_callV X (As := [.int (iI (z1))]) (st := []) hMb.obj rfl (c_X4_measure hlt hMb hMI z1 hz1) sv_L_118 (by decide) rfl (by first | decide | exact Nat.le_of_ble_eq_true rfl) dL_law_502 ⟨by show _ ≤ 601024; omega, by show _ ≤ 7293034; omega⟩ (fun _ _ h => h.elim) ?_
    rintro v9 w8 ⟨rfl, hM8, hF8⟩
    refine j_st (st := [.int (iI ((if msC ni nm T z1 = 0 then nm else 0)))]) ?_
    have hm1 : msC ni nm T z1 ≠ 0 := fun q => hz0 (hcq.symm.trans q)
    rw [if_neg hm1] at hM8
    rw [hcq] at hM8
    have hC8 := hCb.fr (c := 1) (by decide) hF8
    have ho8 := hF8 _ _ hob (by show (2 : Nat) ≠ 1; decide)
    have hoD8 := hF8 _ _ hoDb (by show (2 : Nat) ≠ 1; decide)
    refine j_istore X (i := 7) dL_law_505 (by decide) (q := 507) rfl (lv' := [(7, .int (iI ((if msC ni nm T z1 = 0 then nm else 0)))), (6, .int (iI (msK ni nm S z1))), (5, .int (iI (i))), (4, .ref (oD)), (3, .ref (o)), (2, .ref (am 0)), (1, .ref (ad 0 0)), (0, .ref (b))]) (by first | rfl | simp [cat_rf, cat_i, cat_l, cat_r]) ?_
    refine j_aload_n X dL_law_507 (q := 508) rfl 5 rfl ?_
    refine j_callV X (As := []) (st := []) hM8.obj rfl (c_X4_thrown0 hlt hM8) sv_L_92 (by decide) rfl (by decide) dL_law_508 ⟨by show _ ≤ 601024; omega, by show _ ≤ 7293034; omega⟩ (fun _ _ h => h.elim) ?_
    rintro v7 w7 ⟨rfl, rfl⟩
    refine j_st (st := [.int (iI (msK ni nm S z1))]) ?_
    refine j_iload X dL_law_511 (q := 513) rfl 1 rfl ?_
    refine j_icmp_eq X (tgt := 518) dL_law_513 (by decide) (q := 516) rfl (by omega) (by omega) (fun c_513 => ?_) (fun c_513 => ?_)
    · skip
      refine j_iload X dL_law_518 (q := 520) rfl 1 rfl ?_
      refine j_if_ne X (tgt := 535) dL_law_520 (by decide) (q := 523) rfl (by omega) (fun c_520 => ?_) (fun c_520 => ?_)
      · skip
        refine j_goto X (tgt := 1475) dL_law_535 (by decide) ?_
        exact j_lv (nx _ _ _ ⟨ni, nc, nm, S, T, ad, am, _, f, g, hS.le (by omega) (by omega), hC8, hM8, ⟨ho8, hoD8⟩, rfl, rfl, by omega, by omega⟩) [2, 3, 4, 5, 6, 7] rfl
      · skip
        exact absurd c_520 hz0
    · skip
      exact absurd rfl c_513

set_option maxRecDepth 100000 in
set_option maxHeartbeats 4000000 in
theorem case_22 (X : Cx p l s m args meth cd ⟨RL, mn, ""⟩ code 9 ret D ca base) (hlt : l.stackTraces = false) {b L : Nat} {xs : Nat → Int32} (hX : va_X b L xs s s.heap) (hbl : b < s.heap.size) (hbA : ¬ base ≤ b) (hL : L ≤ 2560) {i c : Int} (hi : 0 ≤ i ∧ i + 5 ≤ L) (hc : 0 ≤ c ∧ c ≤ 511) {o oD ax ay : Nat} (hbo : base ≤ o) (hbD : base ≤ oD) (hLI : LI base ca ax ay o oD c k n w) (nx : ∀ (k' n' : Nat) (w' : Wd), LI base ca ax ay o oD (c + 1) k' n' w' → J p l e room_1 s m args below meth cd Q D base 9 k' n' 1475 [(5, .int (iI (i))), (4, .ref (oD)), (3, .ref (o)), (2, .ref (ay)), (1, .ref (ax)), (0, .ref (b))] [] w') : J p l e room_1 s m args below meth cd Q D base 9 k n 1295 [(5, .int (iI (i))), (4, .ref (oD)), (3, .ref (o)), (2, .ref (ay)), (1, .ref (ax)), (0, .ref (b))] [] w := by
  obtain ⟨ni, nc, nm, S, T, ad, am, th, f, g, hS, hC, hM, ⟨ho, hoD⟩, rfl, rfl, hk, hn⟩ := hLI
  have hMI := hS.MI hc.2
  have hIC := hS.1
  obtain ⟨hn0, hnc0, hnm0, e3, e4, e5, -, e7, e8⟩ := hIC.top
  obtain ⟨z1, e1z, hz1⟩ := i32 (xs (i + 1).toNat)
  have hcq : (if 0 ≤ z1 ∧ z1 < ni then 0 else 1 : Int) = akC ni z1 := rfl
  have hcb : 0 ≤ akC ni z1 ∧ akC ni z1 ≤ 3 := by unfold akC; (repeat' split) <;> omega
  refine j_aload_n X dL_law_1295 (q := 1296) rfl 4 rfl ?_
  refine j_aload_n X dL_law_1296 (q := 1297) rfl 5 rfl ?_
  refine j_iload X dL_law_1297 (q := 1299) rfl 0 rfl ?_
  refine j_iconst X (a := 1) dL_law_1299 (q := 1300) rfl ?_
  refine j_iadd X dL_law_1300 (q := 1301) rfl ?_
  refine j_sld X hX hbl hbA (by omega) (by omega) dL_law_1301 (q := 1302) rfl ?_
  rw [e1z]
  refine j_aload_n X dL_law_1302 (q := 1303) rfl 2 rfl ?_
  refine j_callW X (As := [.ref (ad 0 0), .int (iI (z1)), .ref (o)]) (st := []) (c_L_atStake hlt hC hIC o f ho hbo z1 hz1) sw_L_168 (by decide) rfl (by decide) dL_law_1303 ⟨by show _ ≤ 601024; omega, by show _ ≤ 7293034; omega⟩ ?_
  rintro v9 w9 ⟨rfl, hN, hE⟩
  refine j_st (st := [.int (iI (akC ni z1))]) ?_
  rcases Classical.em (akC ni z1 = 0) with hz0 | hz0
  · skip
    obtain ⟨f9, hf9, rfl⟩ := hN hz0
    have hw1 : Fr 0 w w := Fr.rf
    have hC1 := hC
    have hM1 := hM.fr (c := 0) (by decide) hw1
    have ho1 := hw1 _ _ ho (by show (2 : Nat) ≠ 0; decide)
    have hoD1 := hw1 _ _ hoD (by show (2 : Nat) ≠ 0; decide)
    have hFs : Fr 2 w (wu w o (eLong ca f9)) := Fr.set ho1 rfl
    have hCb := hC1.fr (c := 2) (by decide) hFs
    have hMb := hM1.fr (c := 2) (by decide) hFs
    have hwn : (wu w o (eLong ca f9)) o = some (eLong ca f9) := wu_s
    have hoDb : (wu w o (eLong ca f9)) oD = some (eDbl ca g) := (wu_n (ne_of_cell hoD1 ho1 e_DL)).trans hoD1
    have hob := hwn
    generalize (wu w o (eLong ca f9)) = wb at hCb hMb hob hoDb ⊢
    refine j_istore X (i := 6) dL_law_1306 (by decide) (q := 1308) rfl (lv' := [(6, .int (iI (akC ni z1))), (5, .int (iI (i))), (4, .ref (oD)), (3, .ref (o)), (2, .ref (am 0)), (1, .ref (ad 0 0)), (0, .ref (b))]) (by first | rfl | simp [cat_rf, cat_i, cat_l, cat_r]) ?_
    refine j_aload_n X dL_law_1308 (q := 1309) rfl 4 rfl ?_
    refine j_aload_n X dL_law_1309 (q := 1310) rfl 6 rfl ?_
    refine j_iload X dL_law_1310 (q := 1312) rfl 1 rfl ?_
    refine j_iconst X (a := 1) dL_law_1312 (q := 1313) rfl ?_
    refine j_iadd X dL_law_1313 (q := 1314) rfl ?_
    refine j_sld X hX hbl hbA (by omega) (by omega) dL_law_1314 (q := 1315) rfl ?_
    rw [e1z]
    refine j_callV X (As := [.int (iI (z1))]) (st := []) hMb.obj rfl (c_X4_atStake hlt hMb hMI z1 hz1) sv_L_170 (by decide) rfl (by first | decide | exact Nat.le_of_ble_eq_true rfl) dL_law_1315 ⟨by show _ ≤ 601024; omega, by show _ ≤ 7293034; omega⟩ (fun _ _ h => h.elim) ?_
    rintro v9 w8 ⟨⟨b9, ⟨hb9, hB9⟩, rfl⟩, hM8, hF8⟩
    refine j_st (st := [.int (iI ((if (0 ≤ z1 ∧ z1 < ni) ∧ 0 < T 8 z1 then cnM T b9 nm else 0)))]) ?_
    have hm0 : (if 0 ≤ z1 ∧ z1 < ni then 0 else 1 : Int) = 0 := hcq.trans hz0
    have hans : (if (0 ≤ z1 ∧ z1 < ni) ∧ 0 < T 8 z1 then cnM T b9 nm else 0) = if S 15 z1 < 0 then 0 else sm (stk S (S 15 z1)) nm.toNat := by
      have hk9 := ak_0 hz0
      have h2 := hS.cal hk9.1 hk9.2
      by_cases cc : S 15 z1 < 0
      · rw [if_neg (fun q => by have := q.2; omega), if_pos cc]
      · rw [if_pos ⟨hk9, by omega⟩, if_neg cc]; exact hS.stake hk9.1 hk9.2 (by omega) (hB9 ⟨hk9, by omega⟩)
    rw [hans]
    rw [hcq] at hM8
    have hC8 := hCb.fr (c := 1) (by decide) hF8
    have ho8 := hF8 _ _ hob (by show (2 : Nat) ≠ 1; decide)
    have hoD8 := hF8 _ _ hoDb (by show (2 : Nat) ≠ 1; decide)
    refine j_istore X (i := 7) dL_law_1318 (by decide) (q := 1320) rfl (lv' := [(7, .int (iI (if S 15 z1 < 0 then 0 else sm (stk S (S 15 z1)) nm.toNat))), (6, .int (iI (akC ni z1))), (5, .int (iI (i))), (4, .ref (oD)), (3, .ref (o)), (2, .ref (am 0)), (1, .ref (ad 0 0)), (0, .ref (b))]) (by first | rfl | simp [cat_rf, cat_i, cat_l, cat_r]) ?_
    refine j_aload_n X dL_law_1320 (q := 1321) rfl 5 rfl ?_
    refine j_callV X (As := []) (st := []) hM8.obj rfl (c_X4_thrown0 hlt hM8) sv_L_92 (by decide) rfl (by decide) dL_law_1321 ⟨by show _ ≤ 601024; omega, by show _ ≤ 7293034; omega⟩ (fun _ _ h => h.elim) ?_
    rintro v7 w7 ⟨rfl, rfl⟩
    refine j_st (st := [.int (iI (akC ni z1))]) ?_
    refine j_iload X dL_law_1324 (q := 1326) rfl 1 rfl ?_
    refine j_icmp_eq X (tgt := 1331) dL_law_1326 (by decide) (q := 1329) rfl (by omega) (by omega) (fun c_1326 => ?_) (fun c_1326 => ?_)
    · skip
      refine j_iload X dL_law_1331 (q := 1333) rfl 1 rfl ?_
      refine j_if_ne X (tgt := 1348) dL_law_1333 (by decide) (q := 1336) rfl (by omega) (fun c_1333 => ?_) (fun c_1333 => ?_)
      · skip
        exact absurd hz0 c_1333
      · skip
        refine j_aload_n X dL_law_1336 (q := 1337) rfl 4 rfl ?_
        refine j_iconst X (a := 0) dL_law_1337 (q := 1338) rfl ?_
        refine j_lald X ho8 ⟨by decide, by decide⟩ (by decide) dL_law_1338 (q := 1339) rfl ?_
        rw [show f9 (Int.toNat 0) = (iI (if S 15 z1 < 0 then 0 else sm (stk S (S 15 z1)) nm.toNat)).toInt64 from hf9]
        refine j_iload X dL_law_1339 (q := 1341) rfl 0 rfl ?_
        refine j_i2lR X dL_law_1341 (q := 1342) rfl ?_
        refine j_lcmpE X dL_law_1342 (q := 1343) rfl ?_
        refine j_if_eq X (tgt := 1348) dL_law_1343 (by decide) (q := 1346) rfl (by omega) (fun c_1343 => ?_) (fun c_1343 => ?_)
        · skip
          refine j_goto X (tgt := 1475) dL_law_1348 (by decide) ?_
          exact j_lv (nx _ _ _ ⟨ni, nc, nm, S, T, ad, am, _, f9, g, hS.le (by omega) (by omega), hC8, hM8, ⟨ho8, hoD8⟩, rfl, rfl, by omega, by omega⟩) [2, 3, 4, 5, 6, 7] rfl
        · skip
          exact absurd rfl c_1343
    · skip
      exact absurd rfl c_1326
  · skip
    obtain rfl := hE hz0
    have hCb := hC
    have hMb := hM
    have hob := ho
    have hoDb := hoD
    refine j_istore X (i := 6) dL_law_1306 (by decide) (q := 1308) rfl (lv' := [(6, .int (iI (akC ni z1))), (5, .int (iI (i))), (4, .ref (oD)), (3, .ref (o)), (2, .ref (am 0)), (1, .ref (ad 0 0)), (0, .ref (b))]) (by first | rfl | simp [cat_rf, cat_i, cat_l, cat_r]) ?_
    refine j_aload_n X dL_law_1308 (q := 1309) rfl 4 rfl ?_
    refine j_aload_n X dL_law_1309 (q := 1310) rfl 6 rfl ?_
    refine j_iload X dL_law_1310 (q := 1312) rfl 1 rfl ?_
    refine j_iconst X (a := 1) dL_law_1312 (q := 1313) rfl ?_
    refine j_iadd X dL_law_1313 (q := 1314) rfl ?_
    refine j_sld X hX hbl hbA (by omega) (by omega) dL_law_1314 (q := 1315) rfl ?_
    rw [e1z]
    refine j_callV X (As := [.int (iI (z1))]) (st := []) hMb.obj rfl (c_X4_atStake hlt hMb hMI z1 hz1) sv_L_170 (by decide) rfl (by first | decide | exact Nat.le_of_ble_eq_true rfl) dL_law_1315 ⟨by show _ ≤ 601024; omega, by show _ ≤ 7293034; omega⟩ (fun _ _ h => h.elim) ?_
    rintro v9 w8 ⟨⟨b9, ⟨hb9, hB9⟩, rfl⟩, hM8, hF8⟩
    refine j_st (st := [.int (iI ((if (0 ≤ z1 ∧ z1 < ni) ∧ 0 < T 8 z1 then cnM T b9 nm else 0)))]) ?_
    have hm1 : (if 0 ≤ z1 ∧ z1 < ni then 0 else 1 : Int) ≠ 0 := fun q => hz0 (hcq.symm.trans q)
    rw [hcq] at hM8
    have hC8 := hCb.fr (c := 1) (by decide) hF8
    have ho8 := hF8 _ _ hob (by show (2 : Nat) ≠ 1; decide)
    have hoD8 := hF8 _ _ hoDb (by show (2 : Nat) ≠ 1; decide)
    refine j_istore X (i := 7) dL_law_1318 (by decide) (q := 1320) rfl (lv' := [(7, .int (iI ((if (0 ≤ z1 ∧ z1 < ni) ∧ 0 < T 8 z1 then cnM T b9 nm else 0)))), (6, .int (iI (akC ni z1))), (5, .int (iI (i))), (4, .ref (oD)), (3, .ref (o)), (2, .ref (am 0)), (1, .ref (ad 0 0)), (0, .ref (b))]) (by first | rfl | simp [cat_rf, cat_i, cat_l, cat_r]) ?_
    refine j_aload_n X dL_law_1320 (q := 1321) rfl 5 rfl ?_
    refine j_callV X (As := []) (st := []) hM8.obj rfl (c_X4_thrown0 hlt hM8) sv_L_92 (by decide) rfl (by decide) dL_law_1321 ⟨by show _ ≤ 601024; omega, by show _ ≤ 7293034; omega⟩ (fun _ _ h => h.elim) ?_
    rintro v7 w7 ⟨rfl, rfl⟩
    refine j_st (st := [.int (iI (akC ni z1))]) ?_
    refine j_iload X dL_law_1324 (q := 1326) rfl 1 rfl ?_
    refine j_icmp_eq X (tgt := 1331) dL_law_1326 (by decide) (q := 1329) rfl (by omega) (by omega) (fun c_1326 => ?_) (fun c_1326 => ?_)
    · skip
      refine j_iload X dL_law_1331 (q := 1333) rfl 1 rfl ?_
      refine j_if_ne X (tgt := 1348) dL_law_1333 (by decide) (q := 1336) rfl (by omega) (fun c_1333 => ?_) (fun c_1333 => ?_)
      · skip
        refine j_goto X (tgt := 1475) dL_law_1348 (by decide) ?_
        exact j_lv (nx _ _ _ ⟨ni, nc, nm, S, T, ad, am, _, f, g, hS.le (by omega) (by omega), hC8, hM8, ⟨ho8, hoD8⟩, rfl, rfl, by omega, by omega⟩) [2, 3, 4, 5, 6, 7] rfl
      · skip
        exact absurd c_1333 hz0
    · skip
      exact absurd rfl c_1326

set_option maxRecDepth 100000 in
set_option maxHeartbeats 4000000 in
theorem case_5 (X : Cx p l s m args meth cd ⟨RL, mn, ""⟩ code 9 ret D ca base) (hlt : l.stackTraces = false) {b L : Nat} {xs : Nat → Int32} (hX : va_X b L xs s s.heap) (hbl : b < s.heap.size) (hbA : ¬ base ≤ b) (hL : L ≤ 2560) {i c : Int} (hi : 0 ≤ i ∧ i + 5 ≤ L) (hc : 0 ≤ c ∧ c ≤ 511) {o oD ax ay : Nat} (hbo : base ≤ o) (hbD : base ≤ oD) (hLI : LI base ca ax ay o oD c k n w) (nx : ∀ (k' n' : Nat) (w' : Wd), LI base ca ax ay o oD (c + 1) k' n' w' → J p l e room_1 s m args below meth cd Q D base 9 k' n' 1475 [(5, .int (iI (i))), (4, .ref (oD)), (3, .ref (o)), (2, .ref (ay)), (1, .ref (ax)), (0, .ref (b))] [] w') : J p l e room_1 s m args below meth cd Q D base 9 k n 402 [(5, .int (iI (i))), (4, .ref (oD)), (3, .ref (o)), (2, .ref (ay)), (1, .ref (ax)), (0, .ref (b))] [] w := by
  obtain ⟨ni, nc, nm, S, T, ad, am, th, f, g, hS, hC, hM, ⟨ho, hoD⟩, rfl, rfl, hk, hn⟩ := hLI
  have hMI := hS.MI hc.2
  have hIC := hS.1
  obtain ⟨hn0, hnc0, hnm0, e3, e4, e5, -, e7, e8⟩ := hIC.top
  obtain ⟨z1, e1z, hz1⟩ := i32 (xs (i + 1).toNat)
  obtain ⟨z2, e2z, hz2⟩ := i32 (xs (i + 2).toNat)
  obtain ⟨z3, e3z, hz3⟩ := i32 (xs (i + 3).toNat)
  have hncc : nc < 512 := by have := hS.2.1.2.2.2.1; omega
  have h16 : ∀ i, 0 ≤ i → i < ni → S 16 i ≤ 511 := fun i a b => by have := hS.2.1.2.2.2.2 i a b; omega
  have hcq : kaC ni T z1 z2 z3 = kaK ni S z1 z2 z3 := by
    unfold kaC kaK
    by_cases hk9 : 0 ≤ z1 ∧ z1 < ni
    · rw [if_pos hk9, if_pos hk9, (hS.col hk9.1 hk9.2).1, hS.fof (hIC.ins hk9.1 hk9.2).2.2.2.2.1.2]
    · rw [if_neg hk9, if_neg hk9]
  have hcb : 0 ≤ kaK ni S z1 z2 z3 ∧ kaK ni S z1 z2 z3 ≤ 3 := by unfold kaK; (repeat' split) <;> omega
  refine j_aload_n X dL_law_402 (q := 403) rfl 4 rfl ?_
  refine j_aload_n X dL_law_403 (q := 404) rfl 5 rfl ?_
  refine j_iload X dL_law_404 (q := 406) rfl 0 rfl ?_
  refine j_iconst X (a := 1) dL_law_406 (q := 407) rfl ?_
  refine j_iadd X dL_law_407 (q := 408) rfl ?_
  refine j_sld X hX hbl hbA (by omega) (by omega) dL_law_408 (q := 409) rfl ?_
  rw [e1z]
  refine j_aload_n X dL_law_409 (q := 410) rfl 5 rfl ?_
  refine j_iload X dL_law_410 (q := 412) rfl 0 rfl ?_
  refine j_iconst X (a := 2) dL_law_412 (q := 413) rfl ?_
  refine j_iadd X dL_law_413 (q := 414) rfl ?_
  refine j_sld X hX hbl hbA (by omega) (by omega) dL_law_414 (q := 415) rfl ?_
  rw [e2z]
  refine j_aload_n X dL_law_415 (q := 416) rfl 5 rfl ?_
  refine j_iload X dL_law_416 (q := 418) rfl 0 rfl ?_
  refine j_iconst X (a := 3) dL_law_418 (q := 419) rfl ?_
  refine j_iadd X dL_law_419 (q := 420) rfl ?_
  refine j_sld X hX hbl hbA (by omega) (by omega) dL_law_420 (q := 421) rfl ?_
  rw [e3z]
  refine j_aload_n X dL_law_421 (q := 422) rfl 2 rfl ?_
  refine j_callW X (As := [.ref (ad 0 0), .int (iI (z1)), .int (iI (z2)), .int (iI (z3)), .ref (o)]) (st := []) (c_L_calibrate hlt hC hIC o f ho hbo z1 hz1 z2 hz2 z3 hz3 (by omega) hS.top.1 h16) sw_L_112 (by decide) rfl (by decide) dL_law_422 ⟨by show _ ≤ 601024; omega, by show _ ≤ 7293034; omega⟩ ?_
  rintro v9 w9 ⟨rfl, hN, hE⟩
  refine j_st (st := [.int (iI (kaK ni S z1 z2 z3))]) ?_
  rcases Classical.em (kaK ni S z1 z2 z3 = 0) with hz0 | hz0
  · skip
    obtain ⟨w1, f9, ⟨ad', hC1, had⟩, hw1, hf9, rfl⟩ := hN hz0
    have hM1 := hM.fr (c := 0) (by decide) hw1
    have ho1 := hw1 _ _ ho (by show (2 : Nat) ≠ 0; decide)
    have hoD1 := hw1 _ _ hoD (by show (2 : Nat) ≠ 0; decide)
    have hFs : Fr 2 w1 (wu w1 o (eLong ca f9)) := Fr.set ho1 rfl
    have hCb := hC1.fr (c := 2) (by decide) hFs
    have hMb := hM1.fr (c := 2) (by decide) hFs
    have hwn : (wu w1 o (eLong ca f9)) o = some (eLong ca f9) := wu_s
    have hoDb : (wu w1 o (eLong ca f9)) oD = some (eDbl ca g) := (wu_n (ne_of_cell hoD1 ho1 e_DL)).trans hoD1
    have hob := hwn
    generalize (wu w1 o (eLong ca f9)) = wb at hCb hMb hob hoDb ⊢
    refine j_istore X (i := 6) dL_law_425 (by decide) (q := 427) rfl (lv' := [(6, .int (iI (kaK ni S z1 z2 z3))), (5, .int (iI (i))), (4, .ref (oD)), (3, .ref (o)), (2, .ref (am 0)), (1, .ref (ad 0 0)), (0, .ref (b))]) (by first | rfl | simp [cat_rf, cat_i, cat_l, cat_r]) ?_
    refine j_aload_n X dL_law_427 (q := 428) rfl 4 rfl ?_
    refine j_aload_n X dL_law_428 (q := 429) rfl 6 rfl ?_
    refine j_iload X dL_law_429 (q := 431) rfl 1 rfl ?_
    refine j_iconst X (a := 1) dL_law_431 (q := 432) rfl ?_
    refine j_iadd X dL_law_432 (q := 433) rfl ?_
    refine j_sld X hX hbl hbA (by omega) (by omega) dL_law_433 (q := 434) rfl ?_
    rw [e1z]
    refine j_aload_n X dL_law_434 (q := 435) rfl 6 rfl ?_
    refine j_iload X dL_law_435 (q := 437) rfl 1 rfl ?_
    refine j_iconst X (a := 2) dL_law_437 (q := 438) rfl ?_
    refine j_iadd X dL_law_438 (q := 439) rfl ?_
    refine j_sld X hX hbl hbA (by omega) (by omega) dL_law_439 (q := 440) rfl ?_
    rw [e2z]
    refine j_aload_n X dL_law_440 (q := 441) rfl 6 rfl ?_
    refine j_iload X dL_law_441 (q := 443) rfl 1 rfl ?_
    refine j_iconst X (a := 3) dL_law_443 (q := 444) rfl ?_
    refine j_iadd X dL_law_444 (q := 445) rfl ?_
    refine j_sld X hX hbl hbA (by omega) (by omega) dL_law_445 (q := 446) rfl ?_
    rw [e3z]
    refine j_callV X (As := [.int (iI (z1)), .int (iI (z2)), .int (iI (z3))]) (st := []) hMb.obj rfl (c_X4_calibrate hlt hMb hMI z1 hz1 z2 z3 hz2 hz3 (fun i a b => by rw [(hS.col a b).2.2.2.2]; exact h16 i a b)) sv_L_115 (by decide) rfl (by first | decide | exact Nat.le_of_ble_eq_true rfl) dL_law_446 ⟨by show _ ≤ 601024; omega, by show _ ≤ 7293034; omega⟩ (fun _ _ h => h.elim) ?_
    rintro v9 w8 ⟨⟨b9, ⟨hb9, hB9⟩, rfl, hM8⟩, hF8⟩
    refine j_st (st := [.int (iI ((if kaC ni T z1 z2 z3 = 0 then kmR T b9 nm z1 z2 else 0)))]) ?_
    have hm0 : kaC ni T z1 z2 z3 = 0 := hcq.trans hz0
    rw [if_pos hm0] at hM8
    have hq := (show (0 ≤ z1 ∧ z1 < ni) ∧ ((-99999 ≤ z2 ∧ z2 ≤ 99999) ∧ (-99999 ≤ z3 ∧ z3 ≤ 99999)) ∧ fof (S 14) (inF S) 12 (S 14 z1) = -1 from by unfold kaK at hz0; split at hz0; (next q => split at hz0; (next q2 => split at hz0; (next q3 => exact ⟨q, q2, q3⟩); cases hz0); cases hz0); cases hz0)
    have hcal := hS.calibrate hc.2 hq.1 hq.2.1.1 hq.2.1.2 hq.2.2 (b := b9) (hB9 hq.1)
    have hans : (if kaC ni T z1 z2 z3 = 0 then kmR T b9 nm z1 z2 else 0) = kaR S nc nm z1 z2 z3 := by rw [if_pos hm0]; exact hcal.2.symm
    rw [hans]
    rw [hcq] at hM8
    have hC8 := hCb.fr (c := 1) (by decide) hF8
    have ho8 := hF8 _ _ hob (by show (2 : Nat) ≠ 1; decide)
    have hoD8 := hF8 _ _ hoDb (by show (2 : Nat) ≠ 1; decide)
    refine j_istore X (i := 7) dL_law_449 (by decide) (q := 451) rfl (lv' := [(7, .int (iI (kaR S nc nm z1 z2 z3))), (6, .int (iI (kaK ni S z1 z2 z3))), (5, .int (iI (i))), (4, .ref (oD)), (3, .ref (o)), (2, .ref (am 0)), (1, .ref (ad 0 0)), (0, .ref (b))]) (by first | rfl | simp [cat_rf, cat_i, cat_l, cat_r]) ?_
    refine j_aload_n X dL_law_451 (q := 452) rfl 5 rfl ?_
    refine j_callV X (As := []) (st := []) hM8.obj rfl (c_X4_thrown0 hlt hM8) sv_L_92 (by decide) rfl (by decide) dL_law_452 ⟨by show _ ≤ 601024; omega, by show _ ≤ 7293034; omega⟩ (fun _ _ h => h.elim) ?_
    rintro v7 w7 ⟨rfl, rfl⟩
    refine j_st (st := [.int (iI (kaK ni S z1 z2 z3))]) ?_
    refine j_iload X dL_law_455 (q := 457) rfl 1 rfl ?_
    refine j_icmp_eq X (tgt := 462) dL_law_457 (by decide) (q := 460) rfl (by omega) (by omega) (fun c_457 => ?_) (fun c_457 => ?_)
    · skip
      refine j_iload X dL_law_462 (q := 464) rfl 1 rfl ?_
      refine j_if_ne X (tgt := 479) dL_law_464 (by decide) (q := 467) rfl (by omega) (fun c_464 => ?_) (fun c_464 => ?_)
      · skip
        exact absurd hz0 c_464
      · skip
        refine j_aload_n X dL_law_467 (q := 468) rfl 4 rfl ?_
        refine j_iconst X (a := 0) dL_law_468 (q := 469) rfl ?_
        refine j_lald X ho8 ⟨by decide, by decide⟩ (by decide) dL_law_469 (q := 470) rfl ?_
        rw [show f9 (Int.toNat 0) = (iI (kaR S nc nm z1 z2 z3)).toInt64 from hf9]
        refine j_iload X dL_law_470 (q := 472) rfl 0 rfl ?_
        refine j_i2lR X dL_law_472 (q := 473) rfl ?_
        refine j_lcmpE X dL_law_473 (q := 474) rfl ?_
        refine j_if_eq X (tgt := 479) dL_law_474 (by decide) (q := 477) rfl (by omega) (fun c_474 => ?_) (fun c_474 => ?_)
        · skip
          refine j_goto X (tgt := 1475) dL_law_479 (by decide) ?_
          exact j_lv (nx _ _ _ ⟨ni, nc + 1, nm, kaS S nc nm z1 z2 z3, kmS T b9 ni nm z1 z2 z3, ad', am, _, f9, g, hcal.1, hC8, hM8, ⟨ho8, hoD8⟩, had, rfl, by omega, by omega⟩) [2, 3, 4, 5, 6, 7] rfl
        · skip
          exact absurd rfl c_474
    · skip
      exact absurd rfl c_457
  · skip
    obtain rfl := hE hz0
    have hCb := hC
    have hMb := hM
    have hob := ho
    have hoDb := hoD
    refine j_istore X (i := 6) dL_law_425 (by decide) (q := 427) rfl (lv' := [(6, .int (iI (kaK ni S z1 z2 z3))), (5, .int (iI (i))), (4, .ref (oD)), (3, .ref (o)), (2, .ref (am 0)), (1, .ref (ad 0 0)), (0, .ref (b))]) (by first | rfl | simp [cat_rf, cat_i, cat_l, cat_r]) ?_
    refine j_aload_n X dL_law_427 (q := 428) rfl 4 rfl ?_
    refine j_aload_n X dL_law_428 (q := 429) rfl 6 rfl ?_
    refine j_iload X dL_law_429 (q := 431) rfl 1 rfl ?_
    refine j_iconst X (a := 1) dL_law_431 (q := 432) rfl ?_
    refine j_iadd X dL_law_432 (q := 433) rfl ?_
    refine j_sld X hX hbl hbA (by omega) (by omega) dL_law_433 (q := 434) rfl ?_
    rw [e1z]
    refine j_aload_n X dL_law_434 (q := 435) rfl 6 rfl ?_
    refine j_iload X dL_law_435 (q := 437) rfl 1 rfl ?_
    refine j_iconst X (a := 2) dL_law_437 (q := 438) rfl ?_
    refine j_iadd X dL_law_438 (q := 439) rfl ?_
    refine j_sld X hX hbl hbA (by omega) (by omega) dL_law_439 (q := 440) rfl ?_
    rw [e2z]
    refine j_aload_n X dL_law_440 (q := 441) rfl 6 rfl ?_
    refine j_iload X dL_law_441 (q := 443) rfl 1 rfl ?_
    refine j_iconst X (a := 3) dL_law_443 (q := 444) rfl ?_
    refine j_iadd X dL_law_444 (q := 445) rfl ?_
    refine j_sld X hX hbl hbA (by omega) (by omega) dL_law_445 (q := 446) rfl ?_
    rw [e3z]
    refine j_callV X (As := [.int (iI (z1)), .int (iI (z2)), .int (iI (z3))]) (st := []) hMb.obj rfl (c_X4_calibrate hlt hMb hMI z1 hz1 z2 z3 hz2 hz3 (fun i a b => by rw [(hS.col a b).2.2.2.2]; exact h16 i a b)) sv_L_115 (by decide) rfl (by first | decide | exact Nat.le_of_ble_eq_true rfl) dL_law_446 ⟨by show _ ≤ 601024; omega, by show _ ≤ 7293034; omega⟩ (fun _ _ h => h.elim) ?_
    rintro v9 w8 ⟨⟨b9, ⟨hb9, hB9⟩, rfl, hM8⟩, hF8⟩
    refine j_st (st := [.int (iI ((if kaC ni T z1 z2 z3 = 0 then kmR T b9 nm z1 z2 else 0)))]) ?_
    have hm1 : kaC ni T z1 z2 z3 ≠ 0 := fun q => hz0 (hcq.symm.trans q)
    rw [if_neg hm1] at hM8
    rw [hcq] at hM8
    have hC8 := hCb.fr (c := 1) (by decide) hF8
    have ho8 := hF8 _ _ hob (by show (2 : Nat) ≠ 1; decide)
    have hoD8 := hF8 _ _ hoDb (by show (2 : Nat) ≠ 1; decide)
    refine j_istore X (i := 7) dL_law_449 (by decide) (q := 451) rfl (lv' := [(7, .int (iI ((if kaC ni T z1 z2 z3 = 0 then kmR T b9 nm z1 z2 else 0)))), (6, .int (iI (kaK ni S z1 z2 z3))), (5, .int (iI (i))), (4, .ref (oD)), (3, .ref (o)), (2, .ref (am 0)), (1, .ref (ad 0 0)), (0, .ref (b))]) (by first | rfl | simp [cat_rf, cat_i, cat_l, cat_r]) ?_
    refine j_aload_n X dL_law_451 (q := 452) rfl 5 rfl ?_
    refine j_callV X (As := []) (st := []) hM8.obj rfl (c_X4_thrown0 hlt hM8) sv_L_92 (by decide) rfl (by decide) dL_law_452 ⟨by show _ ≤ 601024; omega, by show _ ≤ 7293034; omega⟩ (fun _ _ h => h.elim) ?_
    rintro v7 w7 ⟨rfl, rfl⟩
    refine j_st (st := [.int (iI (kaK ni S z1 z2 z3))]) ?_
    refine j_iload X dL_law_455 (q := 457) rfl 1 rfl ?_
    refine j_icmp_eq X (tgt := 462) dL_law_457 (by decide) (q := 460) rfl (by omega) (by omega) (fun c_457 => ?_) (fun c_457 => ?_)
    · skip
      refine j_iload X dL_law_462 (q := 464) rfl 1 rfl ?_
      refine j_if_ne X (tgt := 479) dL_law_464 (by decide) (q := 467) rfl (by omega) (fun c_464 => ?_) (fun c_464 => ?_)
      · skip
        refine j_goto X (tgt := 1475) dL_law_479 (by decide) ?_
        exact j_lv (nx _ _ _ ⟨ni, nc, nm, S, T, ad, am, _, f, g, hS.le (by omega) (by omega), hC8, hM8, ⟨ho8, hoD8⟩, rfl, rfl, by omega, by omega⟩) [2, 3, 4, 5, 6, 7] rfl
      · skip
        exact absurd c_464 hz0
    · skip
      exact absurd rfl c_457

set_option maxRecDepth 100000 in
set_option maxHeartbeats 4000000 in
theorem case_13 (X : Cx p l s m args meth cd ⟨RL, mn, ""⟩ code 9 ret D ca base) (hlt : l.stackTraces = false) {b L : Nat} {xs : Nat → Int32} (hX : va_X b L xs s s.heap) (hbl : b < s.heap.size) (hbA : ¬ base ≤ b) (hL : L ≤ 2560) {i c : Int} (hi : 0 ≤ i ∧ i + 5 ≤ L) (hc : 0 ≤ c ∧ c ≤ 511) {o oD ax ay : Nat} (hbo : base ≤ o) (hbD : base ≤ oD) (hLI : LI base ca ax ay o oD c k n w) (nx : ∀ (k' n' : Nat) (w' : Wd), LI base ca ax ay o oD (c + 1) k' n' w' → J p l e room_1 s m args below meth cd Q D base 9 k' n' 1475 [(5, .int (iI (i))), (4, .ref (oD)), (3, .ref (o)), (2, .ref (ay)), (1, .ref (ax)), (0, .ref (b))] [] w') : J p l e room_1 s m args below meth cd Q D base 9 k n 881 [(5, .int (iI (i))), (4, .ref (oD)), (3, .ref (o)), (2, .ref (ay)), (1, .ref (ax)), (0, .ref (b))] [] w := by
  obtain ⟨ni, nc, nm, S, T, ad, am, th, f, g, hS, hC, hM, ⟨ho, hoD⟩, rfl, rfl, hk, hn⟩ := hLI
  have hMI := hS.MI hc.2
  have hIC := hS.1
  obtain ⟨hn0, hnc0, hnm0, e3, e4, e5, -, e7, e8⟩ := hIC.top
  obtain ⟨z1, e1z, hz1⟩ := i32 (xs (i + 1).toNat)
  have hcq : (if 0 ≤ z1 ∧ z1 < ni then 0 else 1 : Int) = akC ni z1 := rfl
  have hcb : 0 ≤ akC ni z1 ∧ akC ni z1 ≤ 3 := by unfold akC; (repeat' split) <;> omega
  refine j_aload_n X dL_law_881 (q := 882) rfl 4 rfl ?_
  refine j_aload_n X dL_law_882 (q := 883) rfl 5 rfl ?_
  refine j_iload X dL_law_883 (q := 885) rfl 0 rfl ?_
  refine j_iconst X (a := 1) dL_law_885 (q := 886) rfl ?_
  refine j_iadd X dL_law_886 (q := 887) rfl ?_
  refine j_sld X hX hbl hbA (by omega) (by omega) dL_law_887 (q := 888) rfl ?_
  rw [e1z]
  refine j_aload X dL_law_888 (q := 890) rfl 1 rfl ?_
  refine j_callW X (As := [.ref (ad 0 0), .int (iI (z1)), .ref (oD)]) (st := []) (c_L_slope hlt hC hIC oD g hoD hbD z1 hz1) sw_L_137 (by decide) rfl (by decide) dL_law_890 ⟨by show _ ≤ 601024; omega, by show _ ≤ 7293034; omega⟩ ?_
  rintro v9 w9 ⟨rfl, hN, hE⟩
  refine j_st (st := [.int (iI (akC ni z1))]) ?_
  rcases Classical.em (akC ni z1 = 0) with hz0 | hz0
  · skip
    obtain ⟨f9, hf9, rfl⟩ := hN hz0
    have hw1 : Fr 0 w w := Fr.rf
    have hC1 := hC
    have hM1 := hM.fr (c := 0) (by decide) hw1
    have ho1 := hw1 _ _ ho (by show (2 : Nat) ≠ 0; decide)
    have hoD1 := hw1 _ _ hoD (by show (2 : Nat) ≠ 0; decide)
    have hFs : Fr 2 w (wu w oD (eDbl ca f9)) := Fr.set hoD1 rfl
    have hCb := hC1.fr (c := 2) (by decide) hFs
    have hMb := hM1.fr (c := 2) (by decide) hFs
    have hwn : (wu w oD (eDbl ca f9)) oD = some (eDbl ca f9) := wu_s
    have hob : (wu w oD (eDbl ca f9)) o = some (eLong ca f) := (wu_n (ne_of_cell ho1 hoD1 e_DL.symm)).trans ho1
    have hoDb := hwn
    generalize (wu w oD (eDbl ca f9)) = wb at hCb hMb hob hoDb ⊢
    refine j_istore X (i := 6) dL_law_893 (by decide) (q := 895) rfl (lv' := [(6, .int (iI (akC ni z1))), (5, .int (iI (i))), (4, .ref (oD)), (3, .ref (o)), (2, .ref (am 0)), (1, .ref (ad 0 0)), (0, .ref (b))]) (by first | rfl | simp [cat_rf, cat_i, cat_l, cat_r]) ?_
    refine j_aload_n X dL_law_895 (q := 896) rfl 4 rfl ?_
    refine j_aload_n X dL_law_896 (q := 897) rfl 6 rfl ?_
    refine j_iload X dL_law_897 (q := 899) rfl 1 rfl ?_
    refine j_iconst X (a := 1) dL_law_899 (q := 900) rfl ?_
    refine j_iadd X dL_law_900 (q := 901) rfl ?_
    refine j_sld X hX hbl hbA (by omega) (by omega) dL_law_901 (q := 902) rfl ?_
    rw [e1z]
    refine j_callV X (As := [.int (iI (z1))]) (st := []) hMb.obj rfl (c_X4_slope hlt hMb hMI z1 hz1) sv_L_140 (by decide) rfl (by first | decide | exact Nat.le_of_ble_eq_true rfl) dL_law_902 ⟨by show _ ≤ 601024; omega, by show _ ≤ 7293034; omega⟩ (fun _ _ h => h.elim) ?_
    rintro v9 w8 ⟨rfl, hM8, hF8⟩
    refine j_st (st := [.double ((if 0 ≤ z1 ∧ z1 < ni then slP (pP T z1) (pQ T z1) else FP.dconst0))]) ?_
    have hm0 : (if 0 ≤ z1 ∧ z1 < ni then 0 else 1 : Int) = 0 := hcq.trans hz0
    have hans : (if 0 ≤ z1 ∧ z1 < ni then slP (pP T z1) (pQ T z1) else FP.dconst0) = slP (S 17 z1) (S 18 z1) := by
      have hk9 := ak_0 hz0
      rw [if_pos hk9]
      rw [(hS.pq hk9.1 hk9.2).1, (hS.pq hk9.1 hk9.2).2]
    rw [hans]
    rw [hcq] at hM8
    have hC8 := hCb.fr (c := 1) (by decide) hF8
    have ho8 := hF8 _ _ hob (by show (2 : Nat) ≠ 1; decide)
    have hoD8 := hF8 _ _ hoDb (by show (2 : Nat) ≠ 1; decide)
    refine j_dstore X (i := 7) dL_law_905 (by decide) (q := 907) rfl (lv' := [(7, .double (slP (S 17 z1) (S 18 z1))), (6, .int (iI (akC ni z1))), (5, .int (iI (i))), (4, .ref (oD)), (3, .ref (o)), (2, .ref (am 0)), (1, .ref (ad 0 0)), (0, .ref (b))]) (by first | rfl | simp [cat_rf, cat_i, cat_l, cat_r]) ?_
    refine j_aload_n X dL_law_907 (q := 908) rfl 5 rfl ?_
    refine j_callV X (As := []) (st := []) hM8.obj rfl (c_X4_thrown0 hlt hM8) sv_L_92 (by decide) rfl (by decide) dL_law_908 ⟨by show _ ≤ 601024; omega, by show _ ≤ 7293034; omega⟩ (fun _ _ h => h.elim) ?_
    rintro v7 w7 ⟨rfl, rfl⟩
    refine j_st (st := [.int (iI (akC ni z1))]) ?_
    refine j_iload X dL_law_911 (q := 913) rfl 1 rfl ?_
    refine j_icmp_eq X (tgt := 918) dL_law_913 (by decide) (q := 916) rfl (by omega) (by omega) (fun c_913 => ?_) (fun c_913 => ?_)
    · skip
      refine j_iload X dL_law_918 (q := 920) rfl 1 rfl ?_
      refine j_if_ne X (tgt := 955) dL_law_920 (by decide) (q := 923) rfl (by omega) (fun c_920 => ?_) (fun c_920 => ?_)
      · skip
        exact absurd hz0 c_920
      · skip
        refine j_aload X dL_law_923 (q := 925) rfl 3 rfl ?_
        refine j_iconst X (a := 0) dL_law_925 (q := 926) rfl ?_
        refine j_dald X hoD8 ⟨by decide, by decide⟩ (by decide) dL_law_926 (q := 927) rfl ?_
        rw [show f9 (Int.toNat 0) = slP (S 17 z1) (S 18 z1) from hf9]
        refine j_dload X dL_law_927 (q := 929) rfl 0 rfl ?_
        obtain ⟨cv, hcv⟩ : ∃ cv, cv = Op.cmpValue (FP.dcmp (slP (S 17 z1) (S 18 z1)) (slP (S 17 z1) (S 18 z1))) CmpOp.l := ⟨_, rfl⟩
        obtain ⟨cz, hcz, hcr⟩ := i32 cv
        refine j_dcmp X dL_law_929 (q := 930) rfl ?_
        rw [← hcv, hcz]
        refine j_if_eq X (tgt := 955) dL_law_930 (by decide) (q := 933) rfl (by omega) (fun c_930 => ?_) (fun c_930 => ?_)
        · skip
          refine j_goto X (tgt := 1475) dL_law_955 (by decide) ?_
          exact j_lv (nx _ _ _ ⟨ni, nc, nm, S, T, ad, am, _, f, f9, hS.le (by omega) (by omega), hC8, hM8, ⟨ho8, hoD8⟩, rfl, rfl, by omega, by omega⟩) [2, 3, 4, 5, 6, 7] rfl
        · skip
          refine j_aload X dL_law_933 (q := 935) rfl 3 rfl ?_
          refine j_iconst X (a := 0) dL_law_935 (q := 936) rfl ?_
          refine j_dald X hoD8 ⟨by decide, by decide⟩ (by decide) dL_law_936 (q := 937) rfl ?_
          rw [show f9 (Int.toNat 0) = slP (S 17 z1) (S 18 z1) from hf9]
          refine j_aload X dL_law_937 (q := 939) rfl 3 rfl ?_
          refine j_iconst X (a := 0) dL_law_939 (q := 940) rfl ?_
          refine j_dald X hoD8 ⟨by decide, by decide⟩ (by decide) dL_law_940 (q := 941) rfl ?_
          rw [show f9 (Int.toNat 0) = slP (S 17 z1) (S 18 z1) from hf9]
          refine j_dcmp X dL_law_941 (q := 942) rfl ?_
          rw [← hcv, hcz]
          refine j_if_eq X (tgt := 953) dL_law_942 (by decide) (q := 945) rfl (by omega) (fun c_942 => ?_) (fun c_942 => ?_)
          · skip
            exact absurd c_942 c_930
          · skip
            refine j_dload X dL_law_945 (q := 947) rfl 0 rfl ?_
            refine j_dload X dL_law_947 (q := 949) rfl 0 rfl ?_
            refine j_dcmp X dL_law_949 (q := 950) rfl ?_
            rw [← hcv, hcz]
            refine j_if_ne X (tgt := 955) dL_law_950 (by decide) (q := 953) rfl (by omega) (fun c_950 => ?_) (fun c_950 => ?_)
            · skip
              refine j_goto X (tgt := 1475) dL_law_955 (by decide) ?_
              exact j_lv (nx _ _ _ ⟨ni, nc, nm, S, T, ad, am, _, f, f9, hS.le (by omega) (by omega), hC8, hM8, ⟨ho8, hoD8⟩, rfl, rfl, by omega, by omega⟩) [2, 3, 4, 5, 6, 7] rfl
            · skip
              exact absurd c_950 c_930
    · skip
      exact absurd rfl c_913
  · skip
    obtain rfl := hE hz0
    have hCb := hC
    have hMb := hM
    have hob := ho
    have hoDb := hoD
    refine j_istore X (i := 6) dL_law_893 (by decide) (q := 895) rfl (lv' := [(6, .int (iI (akC ni z1))), (5, .int (iI (i))), (4, .ref (oD)), (3, .ref (o)), (2, .ref (am 0)), (1, .ref (ad 0 0)), (0, .ref (b))]) (by first | rfl | simp [cat_rf, cat_i, cat_l, cat_r]) ?_
    refine j_aload_n X dL_law_895 (q := 896) rfl 4 rfl ?_
    refine j_aload_n X dL_law_896 (q := 897) rfl 6 rfl ?_
    refine j_iload X dL_law_897 (q := 899) rfl 1 rfl ?_
    refine j_iconst X (a := 1) dL_law_899 (q := 900) rfl ?_
    refine j_iadd X dL_law_900 (q := 901) rfl ?_
    refine j_sld X hX hbl hbA (by omega) (by omega) dL_law_901 (q := 902) rfl ?_
    rw [e1z]
    refine j_callV X (As := [.int (iI (z1))]) (st := []) hMb.obj rfl (c_X4_slope hlt hMb hMI z1 hz1) sv_L_140 (by decide) rfl (by first | decide | exact Nat.le_of_ble_eq_true rfl) dL_law_902 ⟨by show _ ≤ 601024; omega, by show _ ≤ 7293034; omega⟩ (fun _ _ h => h.elim) ?_
    rintro v9 w8 ⟨rfl, hM8, hF8⟩
    refine j_st (st := [.double ((if 0 ≤ z1 ∧ z1 < ni then slP (pP T z1) (pQ T z1) else FP.dconst0))]) ?_
    have hm1 : (if 0 ≤ z1 ∧ z1 < ni then 0 else 1 : Int) ≠ 0 := fun q => hz0 (hcq.symm.trans q)
    rw [hcq] at hM8
    have hC8 := hCb.fr (c := 1) (by decide) hF8
    have ho8 := hF8 _ _ hob (by show (2 : Nat) ≠ 1; decide)
    have hoD8 := hF8 _ _ hoDb (by show (2 : Nat) ≠ 1; decide)
    refine j_dstore X (i := 7) dL_law_905 (by decide) (q := 907) rfl (lv' := [(7, .double ((if 0 ≤ z1 ∧ z1 < ni then slP (pP T z1) (pQ T z1) else FP.dconst0))), (6, .int (iI (akC ni z1))), (5, .int (iI (i))), (4, .ref (oD)), (3, .ref (o)), (2, .ref (am 0)), (1, .ref (ad 0 0)), (0, .ref (b))]) (by first | rfl | simp [cat_rf, cat_i, cat_l, cat_r]) ?_
    refine j_aload_n X dL_law_907 (q := 908) rfl 5 rfl ?_
    refine j_callV X (As := []) (st := []) hM8.obj rfl (c_X4_thrown0 hlt hM8) sv_L_92 (by decide) rfl (by decide) dL_law_908 ⟨by show _ ≤ 601024; omega, by show _ ≤ 7293034; omega⟩ (fun _ _ h => h.elim) ?_
    rintro v7 w7 ⟨rfl, rfl⟩
    refine j_st (st := [.int (iI (akC ni z1))]) ?_
    refine j_iload X dL_law_911 (q := 913) rfl 1 rfl ?_
    refine j_icmp_eq X (tgt := 918) dL_law_913 (by decide) (q := 916) rfl (by omega) (by omega) (fun c_913 => ?_) (fun c_913 => ?_)
    · skip
      refine j_iload X dL_law_918 (q := 920) rfl 1 rfl ?_
      refine j_if_ne X (tgt := 955) dL_law_920 (by decide) (q := 923) rfl (by omega) (fun c_920 => ?_) (fun c_920 => ?_)
      · skip
        refine j_goto X (tgt := 1475) dL_law_955 (by decide) ?_
        exact j_lv (nx _ _ _ ⟨ni, nc, nm, S, T, ad, am, _, f, g, hS.le (by omega) (by omega), hC8, hM8, ⟨ho8, hoD8⟩, rfl, rfl, by omega, by omega⟩) [2, 3, 4, 5, 6, 7] rfl
      · skip
        exact absurd c_920 hz0
    · skip
      exact absurd rfl c_913

end LAW