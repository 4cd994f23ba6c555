section JPUT
variable {p : Program} {l : Launch} {e : Env} {R : Room} {s : State} {m : MethodId} {args : Array Value} {below : List Frame} {meth : Method} {c : Code} {Q : State → Prop} {D : va_G} {ca : Nat → ClassId} {base nL k n pc q : Nat} {lv lv' : List (Nat × Value)} {st : List Value} {w : Wd} {y : MethodName} {cc : ByteArray} {ret : Option FieldType} {ad : Nat → Int → Nat} {ni nc nm : Int} {S : St}
theorem nar_rf (C : String) (r : Option Nat) : narrow (.object C) (va_rf r) = va_rf r := by cases r <;> rfl
theorem fit_rf (C : String) (r : Option Nat) : fits (.object C) (va_rf r) = true := by cases r <;> rfl
theorem nar_z {x : Int32} (h : x = 0 ∨ x = 1) : narrow .boolean (.int x) = .int x := by rcases h with rfl | rfl <;> rfl
theorem fit_z {x : Int32} (h : x = 0 ∨ x = 1) : fits .boolean (.int x) = true := by rcases h with rfl | rfl <;> rfl
theorem j_w {w' : Wd} (h : w = w') (kk : J p l e R s m args below meth c Q D base nL k n pc lv st w') : J p l e R s m args below meth c Q D base nL k n pc lv st w := by rw [h]; exact kk
theorem wu_wu {a : Nat} {e1 e2 : va_E} : wu (wu w a e1) a e2 = wu w a e2 := by
  funext q
  unfold wu
  split <;> rfl
theorem jp_10 (X : Cx p l s m args meth c y cc nL ret D ca base) {idx : Nat} {i z : Int} (hf : FP y.cls idx 1 0 .int false) (hC : CW base ca ad ni nc nm S w) (h0 : 0 ≤ i) (h1 : i < ni) (d : decode cc pc = .ok (.putfield idx, 3)) (hq : pc + 3 = q) (kk : ∀ w', CW base ca ad ni nc nm (up S 10 i z) w' → Fr 0 w w' → J p l e R s m args below meth c Q D base nL k n q lv st w') : J p l e R s m args below meth c Q D base nL k n pc lv (.int (iI z) :: va_rf (pt (ad 1) i) :: st) w := by
  rw [pt_s (ad := ad 1) h0]
  exact j_put X hf (hC.ins h0 h1) (Nat.le_of_ble_eq_true rfl) rfl rfl (hC.b1 h0 h1) d hq (kk _ (hC.put10 h0 h1 z) (Fr.set (hC.ins h0 h1) rfl))
theorem jp_11 (X : Cx p l s m args meth c y cc nL ret D ca base) {idx : Nat} {i z : Int} (hf : FP y.cls idx 1 1 .int false) (hC : CW base ca ad ni nc nm S w) (h0 : 0 ≤ i) (h1 : i < ni) (d : decode cc pc = .ok (.putfield idx, 3)) (hq : pc + 3 = q) (kk : ∀ w', CW base ca ad ni nc nm (up S 11 i z) w' → Fr 0 w w' → J p l e R s m args below meth c Q D base nL k n q lv st w') : J p l e R s m args below meth c Q D base nL k n pc lv (.int (iI z) :: va_rf (pt (ad 1) i) :: st) w := by
  rw [pt_s (ad := ad 1) h0]
  exact j_put X hf (hC.ins h0 h1) (Nat.le_of_ble_eq_true rfl) rfl rfl (hC.b1 h0 h1) d hq (kk _ (hC.put11 h0 h1 z) (Fr.set (hC.ins h0 h1) rfl))
theorem jp_12 (X : Cx p l s m args meth c y cc nL ret D ca base) {idx : Nat} {i z : Int} (hf : FP y.cls idx 1 2 .int false) (hC : CW base ca ad ni nc nm S w) (h0 : 0 ≤ i) (h1 : i < ni) (d : decode cc pc = .ok (.putfield idx, 3)) (hq : pc + 3 = q) (kk : ∀ w', CW base ca ad ni nc nm (up S 12 i z) w' → Fr 0 w w' → J p l e R s m args below meth c Q D base nL k n q lv st w') : J p l e R s m args below meth c Q D base nL k n pc lv (.int (iI z) :: va_rf (pt (ad 1) i) :: st) w := by
  rw [pt_s (ad := ad 1) h0]
  exact j_put X hf (hC.ins h0 h1) (Nat.le_of_ble_eq_true rfl) rfl rfl (hC.b1 h0 h1) d hq (kk _ (hC.put12 h0 h1 z) (Fr.set (hC.ins h0 h1) rfl))
theorem jp_13 (X : Cx p l s m args meth c y cc nL ret D ca base) {idx : Nat} {i z : Int} (hf : FP y.cls idx 1 3 .int false) (hC : CW base ca ad ni nc nm S w) (h0 : 0 ≤ i) (h1 : i < ni) (d : decode cc pc = .ok (.putfield idx, 3)) (hq : pc + 3 = q) (kk : ∀ w', CW base ca ad ni nc nm (up S 13 i z) w' → Fr 0 w w' → J p l e R s m args below meth c Q D base nL k n q lv st w') : J p l e R s m args below meth c Q D base nL k n pc lv (.int (iI z) :: va_rf (pt (ad 1) i) :: st) w := by
  rw [pt_s (ad := ad 1) h0]
  exact j_put X hf (hC.ins h0 h1) (Nat.le_of_ble_eq_true rfl) rfl rfl (hC.b1 h0 h1) d hq (kk _ (hC.put13 h0 h1 z) (Fr.set (hC.ins h0 h1) rfl))
theorem jp_14 (X : Cx p l s m args meth c y cc nL ret D ca base) {idx : Nat} {i z : Int} (hf : FP y.cls idx 1 4 (.object "Calibratory$Instrument") false) (hC : CW base ca ad ni nc nm S w) (h0 : 0 ≤ i) (h1 : i < ni) (d : decode cc pc = .ok (.putfield idx, 3)) (hq : pc + 3 = q) (kk : ∀ w', CW base ca ad ni nc nm (up S 14 i z) w' → Fr 0 w w' → J p l e R s m args below meth c Q D base nL k n q lv st w') : J p l e R s m args below meth c Q D base nL k n pc lv (va_rf (pt (ad 1) z) :: va_rf (pt (ad 1) i) :: st) w := by
  rw [pt_s (ad := ad 1) h0]
  exact j_put X hf (hC.ins h0 h1) (Nat.le_of_ble_eq_true rfl) (nar_rf _ _) (fit_rf _ _) (hC.b1 h0 h1) d hq (kk _ (hC.put14 h0 h1 z) (Fr.set (hC.ins h0 h1) rfl))
theorem jp_15 (X : Cx p l s m args meth c y cc nL ret D ca base) {idx : Nat} {i z : Int} (hf : FP y.cls idx 1 5 (.object "Calibratory$Calibration") false) (hC : CW base ca ad ni nc nm S w) (h0 : 0 ≤ i) (h1 : i < ni) (d : decode cc pc = .ok (.putfield idx, 3)) (hq : pc + 3 = q) (kk : ∀ w', CW base ca ad ni nc nm (up S 15 i z) w' → Fr 0 w w' → J p l e R s m args below meth c Q D base nL k n q lv st w') : J p l e R s m args below meth c Q D base nL k n pc lv (va_rf (pt (ad 2) z) :: va_rf (pt (ad 1) i) :: st) w := by
  rw [pt_s (ad := ad 1) h0]
  exact j_put X hf (hC.ins h0 h1) (Nat.le_of_ble_eq_true rfl) (nar_rf _ _) (fit_rf _ _) (hC.b1 h0 h1) d hq (kk _ (hC.put15 h0 h1 z) (Fr.set (hC.ins h0 h1) rfl))
theorem jp_16 (X : Cx p l s m args meth c y cc nL ret D ca base) {idx : Nat} {i z : Int} (hf : FP y.cls idx 1 6 .int false) (hC : CW base ca ad ni nc nm S w) (h0 : 0 ≤ i) (h1 : i < ni) (d : decode cc pc = .ok (.putfield idx, 3)) (hq : pc + 3 = q) (kk : ∀ w', CW base ca ad ni nc nm (up S 16 i z) w' → Fr 0 w w' → J p l e R s m args below meth c Q D base nL k n q lv st w') : J p l e R s m args below meth c Q D base nL k n pc lv (.int (iI z) :: va_rf (pt (ad 1) i) :: st) w := by
  rw [pt_s (ad := ad 1) h0]
  exact j_put X hf (hC.ins h0 h1) (Nat.le_of_ble_eq_true rfl) rfl rfl (hC.b1 h0 h1) d hq (kk _ (hC.put16 h0 h1 z) (Fr.set (hC.ins h0 h1) rfl))
theorem jp_17 (X : Cx p l s m args meth c y cc nL ret D ca base) {idx : Nat} {i z : Int} (hf : FP y.cls idx 1 7 .long false) (hC : CW base ca ad ni nc nm S w) (h0 : 0 ≤ i) (h1 : i < ni) (d : decode cc pc = .ok (.putfield idx, 3)) (hq : pc + 3 = q) (kk : ∀ w', CW base ca ad ni nc nm (up S 17 i z) w' → Fr 0 w w' → J p l e R s m args below meth c Q D base nL k n q lv st w') : J p l e R s m args below meth c Q D base nL k n pc lv (.long (iL z) :: va_rf (pt (ad 1) i) :: st) w := by
  rw [pt_s (ad := ad 1) h0]
  exact j_put X hf (hC.ins h0 h1) (Nat.le_of_ble_eq_true rfl) rfl rfl (hC.b1 h0 h1) d hq (kk _ (hC.put17 h0 h1 z) (Fr.set (hC.ins h0 h1) rfl))
theorem jp_18 (X : Cx p l s m args meth c y cc nL ret D ca base) {idx : Nat} {i z : Int} (hf : FP y.cls idx 1 8 .long false) (hC : CW base ca ad ni nc nm S w) (h0 : 0 ≤ i) (h1 : i < ni) (d : decode cc pc = .ok (.putfield idx, 3)) (hq : pc + 3 = q) (kk : ∀ w', CW base ca ad ni nc nm (up S 18 i z) w' → Fr 0 w w' → J p l e R s m args below meth c Q D base nL k n q lv st w') : J p l e R s m args below meth c Q D base nL k n pc lv (.long (iL z) :: va_rf (pt (ad 1) i) :: st) w := by
  rw [pt_s (ad := ad 1) h0]
  exact j_put X hf (hC.ins h0 h1) (Nat.le_of_ble_eq_true rfl) rfl rfl (hC.b1 h0 h1) d hq (kk _ (hC.put18 h0 h1 z) (Fr.set (hC.ins h0 h1) rfl))
theorem jp_20 (X : Cx p l s m args meth c y cc nL ret D ca base) {idx : Nat} {i z : Int} (hf : FP y.cls idx 0 0 .int false) (hC : CW base ca ad ni nc nm S w) (h0 : 0 ≤ i) (h1 : i < nc) (d : decode cc pc = .ok (.putfield idx, 3)) (hq : pc + 3 = q) (kk : ∀ w', CW base ca ad ni nc nm (up S 20 i z) w' → Fr 0 w w' → J p l e R s m args below meth c Q D base nL k n q lv st w') : J p l e R s m args below meth c Q D base nL k n pc lv (.int (iI z) :: va_rf (pt (ad 2) i) :: st) w := by
  rw [pt_s (ad := ad 2) h0]
  exact j_put X hf (hC.kal h0 h1) (Nat.le_of_ble_eq_true rfl) rfl rfl (hC.b2 h0 h1) d hq (kk _ (hC.put20 h0 h1 z) (Fr.set (hC.kal h0 h1) rfl))
theorem jp_21 (X : Cx p l s m args meth c y cc nL ret D ca base) {idx : Nat} {i z : Int} (hf : FP y.cls idx 0 1 .int false) (hC : CW base ca ad ni nc nm S w) (h0 : 0 ≤ i) (h1 : i < nc) (d : decode cc pc = .ok (.putfield idx, 3)) (hq : pc + 3 = q) (kk : ∀ w', CW base ca ad ni nc nm (up S 21 i z) w' → Fr 0 w w' → J p l e R s m args below meth c Q D base nL k n q lv st w') : J p l e R s m args below meth c Q D base nL k n pc lv (.int (iI z) :: va_rf (pt (ad 2) i) :: st) w := by
  rw [pt_s (ad := ad 2) h0]
  exact j_put X hf (hC.kal h0 h1) (Nat.le_of_ble_eq_true rfl) rfl rfl (hC.b2 h0 h1) d hq (kk _ (hC.put21 h0 h1 z) (Fr.set (hC.kal h0 h1) rfl))
theorem jp_22 (X : Cx p l s m args meth c y cc nL ret D ca base) {idx : Nat} {i z : Int} (hf : FP y.cls idx 0 2 .int false) (hC : CW base ca ad ni nc nm S w) (h0 : 0 ≤ i) (h1 : i < nc) (d : decode cc pc = .ok (.putfield idx, 3)) (hq : pc + 3 = q) (kk : ∀ w', CW base ca ad ni nc nm (up S 22 i z) w' → Fr 0 w w' → J p l e R s m args below meth c Q D base nL k n q lv st w') : J p l e R s m args below meth c Q D base nL k n pc lv (.int (iI z) :: va_rf (pt (ad 2) i) :: st) w := by
  rw [pt_s (ad := ad 2) h0]
  exact j_put X hf (hC.kal h0 h1) (Nat.le_of_ble_eq_true rfl) rfl rfl (hC.b2 h0 h1) d hq (kk _ (hC.put22 h0 h1 z) (Fr.set (hC.kal h0 h1) rfl))
theorem jp_23 (X : Cx p l s m args meth c y cc nL ret D ca base) {idx : Nat} {i z : Int} (hf : FP y.cls idx 0 3 (.object "Calibratory$Calibration") false) (hC : CW base ca ad ni nc nm S w) (h0 : 0 ≤ i) (h1 : i < nc) (d : decode cc pc = .ok (.putfield idx, 3)) (hq : pc + 3 = q) (kk : ∀ w', CW base ca ad ni nc nm (up S 23 i z) w' → Fr 0 w w' → J p l e R s m args below meth c Q D base nL k n q lv st w') : J p l e R s m args below meth c Q D base nL k n pc lv (va_rf (pt (ad 2) z) :: va_rf (pt (ad 2) i) :: st) w := by
  rw [pt_s (ad := ad 2) h0]
  exact j_put X hf (hC.kal h0 h1) (Nat.le_of_ble_eq_true rfl) (nar_rf _ _) (fit_rf _ _) (hC.b2 h0 h1) d hq (kk _ (hC.put23 h0 h1 z) (Fr.set (hC.kal h0 h1) rfl))
theorem jp_24 (X : Cx p l s m args meth c y cc nL ret D ca base) {idx : Nat} {i z : Int} (hf : FP y.cls idx 0 4 (.object "Calibratory$Calibration") false) (hC : CW base ca ad ni nc nm S w) (h0 : 0 ≤ i) (h1 : i < nc) (d : decode cc pc = .ok (.putfield idx, 3)) (hq : pc + 3 = q) (kk : ∀ w', CW base ca ad ni nc nm (up S 24 i z) w' → Fr 0 w w' → J p l e R s m args below meth c Q D base nL k n q lv st w') : J p l e R s m args below meth c Q D base nL k n pc lv (va_rf (pt (ad 2) z) :: va_rf (pt (ad 2) i) :: st) w := by
  rw [pt_s (ad := ad 2) h0]
  exact j_put X hf (hC.kal h0 h1) (Nat.le_of_ble_eq_true rfl) (nar_rf _ _) (fit_rf _ _) (hC.b2 h0 h1) d hq (kk _ (hC.put24 h0 h1 z) (Fr.set (hC.kal h0 h1) rfl))
theorem jp_25 (X : Cx p l s m args meth c y cc nL ret D ca base) {idx : Nat} {i z : Int} (hf : FP y.cls idx 0 5 .boolean false) (hC : CW base ca ad ni nc nm S w) (h0 : 0 ≤ i) (h1 : i < nc) (hz : iI z = 0 ∨ iI z = 1) (d : decode cc pc = .ok (.putfield idx, 3)) (hq : pc + 3 = q) (kk : ∀ w', CW base ca ad ni nc nm (up S 25 i z) w' → Fr 0 w w' → J p l e R s m args below meth c Q D base nL k n q lv st w') : J p l e R s m args below meth c Q D base nL k n pc lv (.int (iI z) :: va_rf (pt (ad 2) i) :: st) w := by
  rw [pt_s (ad := ad 2) h0]
  exact j_put X hf (hC.kal h0 h1) (Nat.le_of_ble_eq_true rfl) (nar_z hz) (fit_z hz) (hC.b2 h0 h1) d hq (kk _ (hC.put25 h0 h1 z) (Fr.set (hC.kal h0 h1) rfl))
theorem jp_26 (X : Cx p l s m args meth c y cc nL ret D ca base) {idx : Nat} {i z : Int} (hf : FP y.cls idx 0 6 .boolean false) (hC : CW base ca ad ni nc nm S w) (h0 : 0 ≤ i) (h1 : i < nc) (hz : iI z = 0 ∨ iI z = 1) (d : decode cc pc = .ok (.putfield idx, 3)) (hq : pc + 3 = q) (kk : ∀ w', CW base ca ad ni nc nm (up S 26 i z) w' → Fr 0 w w' → J p l e R s m args below meth c Q D base nL k n q lv st w') : J p l e R s m args below meth c Q D base nL k n pc lv (.int (iI z) :: va_rf (pt (ad 2) i) :: st) w := by
  rw [pt_s (ad := ad 2) h0]
  exact j_put X hf (hC.kal h0 h1) (Nat.le_of_ble_eq_true rfl) (nar_z hz) (fit_z hz) (hC.b2 h0 h1) d hq (kk _ (hC.put26 h0 h1 z) (Fr.set (hC.kal h0 h1) rfl))
theorem jp_27 (X : Cx p l s m args meth c y cc nL ret D ca base) {idx : Nat} {i z : Int} (hf : FP y.cls idx 0 7 .int false) (hC : CW base ca ad ni nc nm S w) (h0 : 0 ≤ i) (h1 : i < nc) (d : decode cc pc = .ok (.putfield idx, 3)) (hq : pc + 3 = q) (kk : ∀ w', CW base ca ad ni nc nm (up S 27 i z) w' → Fr 0 w w' → J p l e R s m args below meth c Q D base nL k n q lv st w') : J p l e R s m args below meth c Q D base nL k n pc lv (.int (iI z) :: va_rf (pt (ad 2) i) :: st) w := by
  rw [pt_s (ad := ad 2) h0]
  exact j_put X hf (hC.kal h0 h1) (Nat.le_of_ble_eq_true rfl) rfl rfl (hC.b2 h0 h1) d hq (kk _ (hC.put27 h0 h1 z) (Fr.set (hC.kal h0 h1) rfl))
theorem jp_28 (X : Cx p l s m args meth c y cc nL ret D ca base) {idx : Nat} {i z : Int} (hf : FP y.cls idx 0 8 .int false) (hC : CW base ca ad ni nc nm S w) (h0 : 0 ≤ i) (h1 : i < nc) (d : decode cc pc = .ok (.putfield idx, 3)) (hq : pc + 3 = q) (kk : ∀ w', CW base ca ad ni nc nm (up S 28 i z) w' → Fr 0 w w' → J p l e R s m args below meth c Q D base nL k n q lv st w') : J p l e R s m args below meth c Q D base nL k n pc lv (.int (iI z) :: va_rf (pt (ad 2) i) :: st) w := by
  rw [pt_s (ad := ad 2) h0]
  exact j_put X hf (hC.kal h0 h1) (Nat.le_of_ble_eq_true rfl) rfl rfl (hC.b2 h0 h1) d hq (kk _ (hC.put28 h0 h1 z) (Fr.set (hC.kal h0 h1) rfl))
theorem jp_29 (X : Cx p l s m args meth c y cc nL ret D ca base) {idx : Nat} {i z : Int} (hf : FP y.cls idx 0 9 .int false) (hC : CW base ca ad ni nc nm S w) (h0 : 0 ≤ i) (h1 : i < nc) (d : decode cc pc = .ok (.putfield idx, 3)) (hq : pc + 3 = q) (kk : ∀ w', CW base ca ad ni nc nm (up S 29 i z) w' → Fr 0 w w' → J p l e R s m args below meth c Q D base nL k n q lv st w') : J p l e R s m args below meth c Q D base nL k n pc lv (.int (iI z) :: va_rf (pt (ad 2) i) :: st) w := by
  rw [pt_s (ad := ad 2) h0]
  exact j_put X hf (hC.kal h0 h1) (Nat.le_of_ble_eq_true rfl) rfl rfl (hC.b2 h0 h1) d hq (kk _ (hC.put29 h0 h1 z) (Fr.set (hC.kal h0 h1) rfl))
theorem jp_30 (X : Cx p l s m args meth c y cc nL ret D ca base) {idx : Nat} {i z : Int} (hf : FP y.cls idx 2 0 .int false) (hC : CW base ca ad ni nc nm S w) (h0 : 0 ≤ i) (h1 : i < nm) (d : decode cc pc = .ok (.putfield idx, 3)) (hq : pc + 3 = q) (kk : ∀ w', CW base ca ad ni nc nm (up S 30 i z) w' → Fr 0 w w' → J p l e R s m args below meth c Q D base nL k n q lv st w') : J p l e R s m args below meth c Q D base nL k n pc lv (.int (iI z) :: va_rf (pt (ad 3) i) :: st) w := by
  rw [pt_s (ad := ad 3) h0]
  exact j_put X hf (hC.mea h0 h1) (Nat.le_of_ble_eq_true rfl) rfl rfl (hC.b3 h0 h1) d hq (kk _ (hC.put30 h0 h1 z) (Fr.set (hC.mea h0 h1) rfl))
theorem jp_31 (X : Cx p l s m args meth c y cc nL ret D ca base) {idx : Nat} {i z : Int} (hf : FP y.cls idx 2 1 (.object "Calibratory$Calibration") false) (hC : CW base ca ad ni nc nm S w) (h0 : 0 ≤ i) (h1 : i < nm) (d : decode cc pc = .ok (.putfield idx, 3)) (hq : pc + 3 = q) (kk : ∀ w', CW base ca ad ni nc nm (up S 31 i z) w' → Fr 0 w w' → J p l e R s m args below meth c Q D base nL k n q lv st w') : J p l e R s m args below meth c Q D base nL k n pc lv (va_rf (pt (ad 2) z) :: va_rf (pt (ad 3) i) :: st) w := by
  rw [pt_s (ad := ad 3) h0]
  exact j_put X hf (hC.mea h0 h1) (Nat.le_of_ble_eq_true rfl) (nar_rf _ _) (fit_rf _ _) (hC.b3 h0 h1) d hq (kk _ (hC.put31 h0 h1 z) (Fr.set (hC.mea h0 h1) rfl))
theorem jp_32 (X : Cx p l s m args meth c y cc nL ret D ca base) {idx : Nat} {i z : Int} (hf : FP y.cls idx 2 2 .boolean false) (hC : CW base ca ad ni nc nm S w) (h0 : 0 ≤ i) (h1 : i < nm) (hz : iI z = 0 ∨ iI z = 1) (d : decode cc pc = .ok (.putfield idx, 3)) (hq : pc + 3 = q) (kk : ∀ w', CW base ca ad ni nc nm (up S 32 i z) w' → Fr 0 w w' → J p l e R s m args below meth c Q D base nL k n q lv st w') : J p l e R s m args below meth c Q D base nL k n pc lv (.int (iI z) :: va_rf (pt (ad 3) i) :: st) w := by
  rw [pt_s (ad := ad 3) h0]
  exact j_put X hf (hC.mea h0 h1) (Nat.le_of_ble_eq_true rfl) (nar_z hz) (fit_z hz) (hC.b3 h0 h1) d hq (kk _ (hC.put32 h0 h1 z) (Fr.set (hC.mea h0 h1) rfl))
theorem jp_6 (X : Cx p l s m args meth c y cc nL ret D ca base) {idx : Nat} {z : Int} (hf : FP y.cls idx 3 6 .int false) (hC : CW base ca ad ni nc nm S w) (d : decode cc pc = .ok (.putfield idx, 3)) (hq : pc + 3 = q) (kk : ∀ w', CW base ca ad ni nc nm (up S 6 0 z) w' → Fr 0 w w' → J p l e R s m args below meth c Q D base nL k n q lv st w') : J p l e R s m args below meth c Q D base nL k n pc lv (.int (iI z) :: .ref (ad 0 0) :: st) w :=
  j_put X hf hC.cal (Nat.le_of_ble_eq_true rfl) rfl rfl hC.b0 d hq (kk _ (hC.put6 z) (Fr.set hC.cal rfl))
theorem jp_7 (X : Cx p l s m args meth c y cc nL ret D ca base) {idx : Nat} {z : Int} (hf : FP y.cls idx 3 7 .int false) (hC : CW base ca ad ni nc nm S w) (d : decode cc pc = .ok (.putfield idx, 3)) (hq : pc + 3 = q) (kk : ∀ w', CW base ca ad ni nc nm (up S 7 0 z) w' → Fr 0 w w' → J p l e R s m args below meth c Q D base nL k n q lv st w') : J p l e R s m args below meth c Q D base nL k n pc lv (.int (iI z) :: .ref (ad 0 0) :: st) w :=
  j_put X hf hC.cal (Nat.le_of_ble_eq_true rfl) rfl rfl hC.b0 d hq (kk _ (hC.put7 z) (Fr.set hC.cal rfl))
theorem jp_8 (X : Cx p l s m args meth c y cc nL ret D ca base) {idx : Nat} {z : Int} (hf : FP y.cls idx 3 8 .int false) (hC : CW base ca ad ni nc nm S w) (d : decode cc pc = .ok (.putfield idx, 3)) (hq : pc + 3 = q) (kk : ∀ w', CW base ca ad ni nc nm (up S 8 0 z) w' → Fr 0 w w' → J p l e R s m args below meth c Q D base nL k n q lv st w') : J p l e R s m args below meth c Q D base nL k n pc lv (.int (iI z) :: .ref (ad 0 0) :: st) w :=
  j_put X hf hC.cal (Nat.le_of_ble_eq_true rfl) rfl rfl hC.b0 d hq (kk _ (hC.put8 z) (Fr.set hC.cal rfl))
end JPUT
section ICUP
variable {n nc nm : Int} {S : St}
theorem IC.up11 (h : IC n nc nm S) {i v : Int} (hv : 1 ≤ v ∧ v ≤ 9999) : IC n nc nm (up S 11 i v) := by
  obtain ⟨h1, h2, h3, h4, h5⟩ := h
  refine ⟨h1, ?_, h3, h4, h5⟩
  intro j a b
  by_cases hj : j = i
  · subst hj
    obtain ⟨g0, g1, g2, g3, g4, g5, g6, g7, g8⟩ := h2 j a b
    exact ⟨g0, by rw [up_s]; exact hv, g2, g3, g4, g5, g6, g7, g8⟩
  · have g := h2 j a b
    have e : up S 11 i v 11 j = S 11 j := up_i hj
    unfold RI at g ⊢
    rw [e]
    exact g
theorem IC.up12 (h : IC n nc nm S) {i v : Int} (hv : 0 ≤ v ∧ v ≤ 999) : IC n nc nm (up S 12 i v) := by
  obtain ⟨h1, h2, h3, h4, h5⟩ := h
  refine ⟨h1, ?_, h3, h4, h5⟩
  intro j a b
  by_cases hj : j = i
  · subst hj
    obtain ⟨g0, g1, g2, g3, g4, g5, g6, g7, g8⟩ := h2 j a b
    exact ⟨g0, g1, by rw [up_s]; exact hv, g3, g4, g5, g6, g7, g8⟩
  · have g := h2 j a b
    have e : up S 12 i v 12 j = S 12 j := up_i hj
    unfold RI at g ⊢
    rw [e]
    exact g
theorem IC.up13 (h : IC n nc nm S) {i v : Int} (hv : 1 ≤ v ∧ v ≤ 999) : IC n nc nm (up S 13 i v) := by
  obtain ⟨h1, h2, h3, h4, h5⟩ := h
  refine ⟨h1, ?_, h3, h4, h5⟩
  intro j a b
  by_cases hj : j = i
  · subst hj
    obtain ⟨g0, g1, g2, g3, g4, g5, g6, g7, g8⟩ := h2 j a b
    exact ⟨g0, g1, g2, by rw [up_s]; exact hv, g4, g5, g6, g7, g8⟩
  · have g := h2 j a b
    have e : up S 13 i v 13 j = S 13 j := up_i hj
    unfold RI at g ⊢
    rw [e]
    exact g
theorem IC.up15 (h : IC n nc nm S) {i v : Int} (hv : -1 ≤ v ∧ v < nc) : IC n nc nm (up S 15 i v) := by
  obtain ⟨h1, h2, h3, h4, h5⟩ := h
  refine ⟨h1, ?_, h3, h4, h5⟩
  intro j a b
  by_cases hj : j = i
  · subst hj
    obtain ⟨g0, g1, g2, g3, g4, g5, g6, g7, g8⟩ := h2 j a b
    exact ⟨g0, g1, g2, g3, g4, by rw [up_s]; exact hv, g6, g7, g8⟩
  · have g := h2 j a b
    have e : up S 15 i v 15 j = S 15 j := up_i hj
    unfold RI at g ⊢
    rw [e]
    exact g
theorem IC.up16 (h : IC n nc nm S) {i v : Int} (hv : 0 ≤ v ∧ v ≤ 512) : IC n nc nm (up S 16 i v) := by
  obtain ⟨h1, h2, h3, h4, h5⟩ := h
  refine ⟨h1, ?_, h3, h4, h5⟩
  intro j a b
  by_cases hj : j = i
  · subst hj
    obtain ⟨g0, g1, g2, g3, g4, g5, g6, g7, g8⟩ := h2 j a b
    exact ⟨g0, g1, g2, g3, g4, g5, by rw [up_s]; exact hv, g7, g8⟩
  · have g := h2 j a b
    have e : up S 16 i v 16 j = S 16 j := up_i hj
    unfold RI at g ⊢
    rw [e]
    exact g
theorem IC.up17 (h : IC n nc nm S) {i v : Int} (hv : -900000000000 ≤ v ∧ v ≤ 900000000000) : IC n nc nm (up S 17 i v) := by
  obtain ⟨h1, h2, h3, h4, h5⟩ := h
  refine ⟨h1, ?_, h3, h4, h5⟩
  intro j a b
  by_cases hj : j = i
  · subst hj
    obtain ⟨g0, g1, g2, g3, g4, g5, g6, g7, g8⟩ := h2 j a b
    exact ⟨g0, g1, g2, g3, g4, g5, g6, by rw [up_s]; exact hv, g8⟩
  · have g := h2 j a b
    have e : up S 17 i v 17 j = S 17 j := up_i hj
    unfold RI at g ⊢
    rw [e]
    exact g
theorem IC.up18 (h : IC n nc nm S) {i v : Int} (hv : 0 ≤ v ∧ v ≤ 2200000000000) : IC n nc nm (up S 18 i v) := by
  obtain ⟨h1, h2, h3, h4, h5⟩ := h
  refine ⟨h1, ?_, h3, h4, h5⟩
  intro j a b
  by_cases hj : j = i
  · subst hj
    obtain ⟨g0, g1, g2, g3, g4, g5, g6, g7, g8⟩ := h2 j a b
    exact ⟨g0, g1, g2, g3, g4, g5, g6, g7, by rw [up_s]; exact hv⟩
  · have g := h2 j a b
    have e : up S 18 i v 18 j = S 18 j := up_i hj
    unfold RI at g ⊢
    rw [e]
    exact g
theorem IC.up25 (h : IC n nc nm S) {i v : Int} (hv : 0 ≤ v ∧ v ≤ 1) : IC n nc nm (up S 25 i v) := by
  obtain ⟨h1, h2, h3, h4, h5⟩ := h
  refine ⟨h1, h2, ?_, h4, h5⟩
  intro j a b
  by_cases hj : j = i
  · subst hj
    obtain ⟨g0, g1, g2, g3, g4, g5, g6, g7, g8, g9⟩ := h3 j a b
    exact ⟨g0, g1, g2, g3, g4, by rw [up_s]; exact hv, g6, g7, g8, g9⟩
  · have g := h3 j a b
    have e : up S 25 i v 25 j = S 25 j := up_i hj
    unfold RK at g ⊢
    rw [e]
    exact g
theorem IC.up26 (h : IC n nc nm S) {i v : Int} (hv : 0 ≤ v ∧ v ≤ 1) : IC n nc nm (up S 26 i v) := by
  obtain ⟨h1, h2, h3, h4, h5⟩ := h
  refine ⟨h1, h2, ?_, h4, h5⟩
  intro j a b
  by_cases hj : j = i
  · subst hj
    obtain ⟨g0, g1, g2, g3, g4, g5, g6, g7, g8, g9⟩ := h3 j a b
    exact ⟨g0, g1, g2, g3, g4, g5, by rw [up_s]; exact hv, g7, g8, g9⟩
  · have g := h3 j a b
    have e : up S 26 i v 26 j = S 26 j := up_i hj
    unfold RK at g ⊢
    rw [e]
    exact g
theorem IC.up27 (h : IC n nc nm S) {i v : Int} (hv : 0 ≤ v ∧ v ≤ 1000000) : IC n nc nm (up S 27 i v) := by
  obtain ⟨h1, h2, h3, h4, h5⟩ := h
  refine ⟨h1, h2, ?_, h4, h5⟩
  intro j a b
  by_cases hj : j = i
  · subst hj
    obtain ⟨g0, g1, g2, g3, g4, g5, g6, g7, g8, g9⟩ := h3 j a b
    exact ⟨g0, g1, g2, g3, g4, g5, g6, by rw [up_s]; exact hv, g8, g9⟩
  · have g := h3 j a b
    have e : up S 27 i v 27 j = S 27 j := up_i hj
    unfold RK at g ⊢
    rw [e]
    exact g
theorem IC.up28 (h : IC n nc nm S) {i v : Int} (hv : 0 ≤ v ∧ v ≤ 511488) : IC n nc nm (up S 28 i v) := by
  obtain ⟨h1, h2, h3, h4, h5⟩ := h
  refine ⟨h1, h2, ?_, h4, h5⟩
  intro j a b
  by_cases hj : j = i
  · subst hj
    obtain ⟨g0, g1, g2, g3, g4, g5, g6, g7, g8, g9⟩ := h3 j a b
    exact ⟨g0, g1, g2, g3, g4, g5, g6, g7, by rw [up_s]; exact hv, g9⟩
  · have g := h3 j a b
    have e : up S 28 i v 28 j = S 28 j := up_i hj
    unfold RK at g ⊢
    rw [e]
    exact g
theorem IC.up29 (h : IC n nc nm S) {i v : Int} (hv : -199998 ≤ v ∧ v ≤ 199998) : IC n nc nm (up S 29 i v) := by
  obtain ⟨h1, h2, h3, h4, h5⟩ := h
  refine ⟨h1, h2, ?_, h4, h5⟩
  intro j a b
  by_cases hj : j = i
  · subst hj
    obtain ⟨g0, g1, g2, g3, g4, g5, g6, g7, g8, g9⟩ := h3 j a b
    exact ⟨g0, g1, g2, g3, g4, g5, g6, g7, g8, by rw [up_s]; exact hv⟩
  · have g := h3 j a b
    have e : up S 29 i v 29 j = S 29 j := up_i hj
    unfold RK at g ⊢
    rw [e]
    exact g
theorem IC.up32 (h : IC n nc nm S) {i v : Int} (hv : 0 ≤ v ∧ v ≤ 1) : IC n nc nm (up S 32 i v) := by
  obtain ⟨h1, h2, h3, h4, h5⟩ := h
  refine ⟨h1, h2, h3, ?_, h5⟩
  intro j a b
  by_cases hj : j = i
  · subst hj
    obtain ⟨g0, g1, g2⟩ := h4 j a b
    exact ⟨g0, g1, by rw [up_s]; exact hv⟩
  · have g := h4 j a b
    have e : up S 32 i v 32 j = S 32 j := up_i hj
    unfold RM at g ⊢
    rw [e]
    exact g
theorem IC.up6 (h : IC n nc nm S) {v : Int} (hv : True) : IC n nc nm (up S 6 0 v) := by
  obtain ⟨h1, h2, h3, h4, h5⟩ := h
  exact ⟨⟨h1.1, h1.2.1, h1.2.2.1, h1.2.2.2.1, h1.2.2.2.2.1, h1.2.2.2.2.2.1, trivial, h1.2.2.2.2.2.2.2.1, h1.2.2.2.2.2.2.2.2⟩, h2, h3, h4, h5⟩
theorem IC.up7 (h : IC n nc nm S) {v : Int} (hv : 0 ≤ v ∧ v ≤ 511488) : IC n nc nm (up S 7 0 v) := by
  obtain ⟨h1, h2, h3, h4, h5⟩ := h
  exact ⟨⟨h1.1, h1.2.1, h1.2.2.1, h1.2.2.2.1, h1.2.2.2.2.1, h1.2.2.2.2.2.1, h1.2.2.2.2.2.2.1, by rw [up_s]; exact hv, h1.2.2.2.2.2.2.2.2⟩, h2, h3, h4, h5⟩
theorem IC.up8 (h : IC n nc nm S) {v : Int} (hv : 0 ≤ v ∧ v ≤ 512) : IC n nc nm (up S 8 0 v) := by
  obtain ⟨h1, h2, h3, h4, h5⟩ := h
  exact ⟨⟨h1.1, h1.2.1, h1.2.2.1, h1.2.2.2.1, h1.2.2.2.2.1, h1.2.2.2.2.2.1, h1.2.2.2.2.2.2.1, h1.2.2.2.2.2.2.2.1, by rw [up_s]; exact hv⟩, h2, h3, h4, h5⟩
end ICUP
def adn (ad : Nat → Int → Nat) (K : Nat) (c : Int) (a : Nat) : Nat → Int → Nat := fun k j => if k = K then (if j = c then a else ad k j) else ad k j
theorem adn_n {ad : Nat → Int → Nat} {K k : Nat} {c j : Int} {a : Nat} (h : j ≠ c) : adn ad K c a k j = ad k j := by simp [adn, h]
theorem adn_s {ad : Nat → Int → Nat} {K : Nat} {c : Int} {a : Nat} : adn ad K c a K c = a := by simp [adn]
theorem pt_adn {ad : Nat → Int → Nat} {K k : Nat} {c v : Int} {a : Nat} (h : v ≠ c) : pt (adn ad K c a k) v = pt (ad k) v := by
  unfold pt
  split
  · rfl
  · rw [adn_n h]
def nwI (S : St) (n : Int) (f : Nat → Int) : St := fun g j => if j = n ∧ 10 ≤ g ∧ g ≤ 18 then f g else S g j
def nwK (S : St) (n : Int) (f : Nat → Int) : St := fun g j => if j = n ∧ 20 ≤ g ∧ g ≤ 29 then f g else S g j
def nwM (S : St) (n : Int) (f : Nat → Int) : St := fun g j => if j = n ∧ 30 ≤ g ∧ g ≤ 32 then f g else S g j
section CWNEW
variable {base : Nat} {ca : Nat → ClassId} {ad : Nat → Int → Nat} {n nc nm : Int} {S : St} {w : Wd}
theorem CW.newI (h : CW base ca ad n nc nm S w) (hI : IC n nc nm S) {a : Nat} (ha : w a = none) (hb : base ≤ a) (f : Nat → Int) : CW base ca (adn ad 1 n a) (n + 1) (nc) (nm) (nwI S n f) (wu w a (cIns (adn ad 1 n a) (nwI S n f) n)) := by
  have ne : ∀ (q : Nat) (e : va_E), w q = some e → q ≠ a := fun q e hq z => by rw [z, ha] at hq; cases hq
  obtain ⟨⟨hn, hnc, hnm, e3, e4, e5, -⟩, -⟩ := id hI
  have hS : ∀ (g : Nat) (j : Int), j ≠ n → (nwI S n f) g j = S g j := fun g j hj => by simp [nwI, hj]
  have hS0 : ∀ (g : Nat), g ≤ 9 → (nwI S n f) g 0 = S g 0 := fun g hg => by unfold nwI; rw [if_neg (by omega)]
  refine ⟨⟨?_, ?_, ?_, ?_⟩, h.2.1, ?_, ?_, ?_, ?_, ?_, ?_⟩
  · show wu w a _ (ad 0 0) = _
    rw [wu_n (ne _ _ h.cal), h.cal]
    show _ = some (cCal (adn ad 1 n a) (nwI S n f) 0)
    simp only [cCal, hS0 3 (by decide), hS0 4 (by decide), hS0 5 (by decide), hS0 6 (by decide), hS0 7 (by decide), hS0 8 (by decide)]
    rfl
  · show wu w a _ (ad 0 1) = _
    rw [wu_n (ne _ _ h.told), h.told, hS0 3 (by decide), rw_cong (fun i h1 h2 => adn_n (by omega))]
  · show wu w a _ (ad 0 2) = _
    rw [wu_n (ne _ _ h.made), h.made, hS0 4 (by decide)]
    rfl
  · show wu w a _ (ad 0 3) = _
    rw [wu_n (ne _ _ h.log), h.log, hS0 5 (by decide)]
    rfl
  · intro j h0 h1
    by_cases hj : j = n
    · subst hj
      rw [adn_s]
      exact ⟨hb, wu_s⟩
    · have h2 : j < n := by omega
      rw [adn_n hj, wu_n (ne _ _ (h.ins h0 h2)), h.ins h0 h2]
      refine ⟨h.b1 h0 h2, ?_⟩
      have gR := hI.ins h0 h2
      unfold RI at gR
      simp only [cIns, hS _ j hj]
      rw [pt_adn (show S 14 j ≠ n by omega)]
      rfl
  · intro j h0 h1
    show base ≤ ad 2 j ∧ wu w a _ (ad 2 j) = _
    rw [wu_n (ne _ _ (h.kal h0 h1)), h.kal h0 h1]
    refine ⟨h.b2 h0 h1, ?_⟩
    have gR := hI.kal h0 h1
    unfold RK at gR
    have hT : ∀ g : Nat, 20 ≤ g → g ≤ 29 → (nwI S n f) g j = S g j := fun g h8 h9 => by unfold nwI; rw [if_neg (by omega)]
    simp only [cKal, hT 20 (by decide) (by decide), hT 21 (by decide) (by decide), hT 22 (by decide) (by decide), hT 23 (by decide) (by decide), hT 24 (by decide) (by decide), hT 25 (by decide) (by decide), hT 26 (by decide) (by decide), hT 27 (by decide) (by decide), hT 28 (by decide) (by decide), hT 29 (by decide) (by decide)]
    rfl
  · intro j h0 h1
    show base ≤ ad 3 j ∧ wu w a _ (ad 3 j) = _
    rw [wu_n (ne _ _ (h.mea h0 h1)), h.mea h0 h1]
    refine ⟨h.b3 h0 h1, ?_⟩
    have gR := hI.mea h0 h1
    unfold RM at gR
    have hT : ∀ g : Nat, 30 ≤ g → g ≤ 32 → (nwI S n f) g j = S g j := fun g h8 h9 => by unfold nwI; rw [if_neg (by omega)]
    simp only [cMea, hT 30 (by decide) (by decide), hT 31 (by decide) (by decide), hT 32 (by decide) (by decide)]
    rfl
  · intro i j a0 a1 b0 b1 he
    by_cases hi : i = n
    · by_cases hj : j = n
      · rw [hi, hj]
      · rw [hi, adn_s, adn_n hj] at he
        exact absurd he.symm (ne _ _ (h.ins b0 (by omega)))
    · by_cases hj : j = n
      · rw [hj, adn_s, adn_n hi] at he
        exact absurd he (ne _ _ (h.ins a0 (by omega)))
      · rw [adn_n hi, adn_n hj] at he
        exact h.inj1 a0 (by omega) b0 (by omega) he
  · intro i j a0 a1 b0 b1 he
    exact h.inj2 a0 a1 b0 b1 he
  · intro i j a0 a1 b0 b1 he
    exact h.inj3 a0 a1 b0 b1 he
theorem CW.newK (h : CW base ca ad n nc nm S w) (hI : IC n nc nm S) {a : Nat} (ha : w a = none) (hb : base ≤ a) (f : Nat → Int) : CW base ca (adn ad 2 nc a) (n) (nc + 1) (nm) (nwK S nc f) (wu w a (cKal (adn ad 2 nc a) (nwK S nc f) nc)) := by
  have ne : ∀ (q : Nat) (e : va_E), w q = some e → q ≠ a := fun q e hq z => by rw [z, ha] at hq; cases hq
  obtain ⟨⟨hn, hnc, hnm, e3, e4, e5, -⟩, -⟩ := id hI
  have hS : ∀ (g : Nat) (j : Int), j ≠ nc → (nwK S nc f) g j = S g j := fun g j hj => by simp [nwK, hj]
  have hS0 : ∀ (g : Nat), g ≤ 9 → (nwK S nc f) g 0 = S g 0 := fun g hg => by unfold nwK; rw [if_neg (by omega)]
  refine ⟨⟨?_, ?_, ?_, ?_⟩, h.2.1, ?_, ?_, ?_, ?_, ?_, ?_⟩
  · show wu w a _ (ad 0 0) = _
    rw [wu_n (ne _ _ h.cal), h.cal]
    show _ = some (cCal (adn ad 2 nc a) (nwK S nc f) 0)
    simp only [cCal, hS0 3 (by decide), hS0 4 (by decide), hS0 5 (by decide), hS0 6 (by decide), hS0 7 (by decide), hS0 8 (by decide)]
    rfl
  · show wu w a _ (ad 0 1) = _
    rw [wu_n (ne _ _ h.told), h.told, hS0 3 (by decide)]
    rfl
  · show wu w a _ (ad 0 2) = _
    rw [wu_n (ne _ _ h.made), h.made, hS0 4 (by decide)]
    rfl
  · show wu w a _ (ad 0 3) = _
    rw [wu_n (ne _ _ h.log), h.log, hS0 5 (by decide), rw_cong (fun i h1 h2 => adn_n (by omega))]
  · intro j h0 h1
    show base ≤ ad 1 j ∧ wu w a _ (ad 1 j) = _
    rw [wu_n (ne _ _ (h.ins h0 h1)), h.ins h0 h1]
    refine ⟨h.b1 h0 h1, ?_⟩
    have gR := hI.ins h0 h1
    unfold RI at gR
    have hT : ∀ g : Nat, 10 ≤ g → g ≤ 18 → (nwK S nc f) g j = S g j := fun g h8 h9 => by unfold nwK; rw [if_neg (by omega)]
    simp only [cIns, hT 10 (by decide) (by decide), hT 11 (by decide) (by decide), hT 12 (by decide) (by decide), hT 13 (by decide) (by decide), hT 14 (by decide) (by decide), hT 15 (by decide) (by decide), hT 16 (by decide) (by decide), hT 17 (by decide) (by decide), hT 18 (by decide) (by decide)]
    rw [show pt (adn ad 2 nc a 2) (S 15 j) = pt (ad 2) (S 15 j) from pt_adn (by omega)]
    rfl
  · intro j h0 h1
    by_cases hj : j = nc
    · subst hj
      rw [adn_s]
      exact ⟨hb, wu_s⟩
    · have h2 : j < nc := by omega
      rw [adn_n hj, wu_n (ne _ _ (h.kal h0 h2)), h.kal h0 h2]
      refine ⟨h.b2 h0 h2, ?_⟩
      have gR := hI.kal h0 h2
      unfold RK at gR
      simp only [cKal, hS _ j hj]
      rw [pt_adn (show S 23 j ≠ nc by omega), pt_adn (show S 24 j ≠ nc by omega)]
  · intro j h0 h1
    show base ≤ ad 3 j ∧ wu w a _ (ad 3 j) = _
    rw [wu_n (ne _ _ (h.mea h0 h1)), h.mea h0 h1]
    refine ⟨h.b3 h0 h1, ?_⟩
    have gR := hI.mea h0 h1
    unfold RM at gR
    have hT : ∀ g : Nat, 30 ≤ g → g ≤ 32 → (nwK S nc f) g j = S g j := fun g h8 h9 => by unfold nwK; rw [if_neg (by omega)]
    simp only [cMea, hT 30 (by decide) (by decide), hT 31 (by decide) (by decide), hT 32 (by decide) (by decide)]
    rw [show pt (adn ad 2 nc a 2) (S 31 j) = pt (ad 2) (S 31 j) from pt_adn (by omega)]
  · intro i j a0 a1 b0 b1 he
    exact h.inj1 a0 a1 b0 b1 he
  · intro i j a0 a1 b0 b1 he
    by_cases hi : i = nc
    · by_cases hj : j = nc
      · rw [hi, hj]
      · rw [hi, adn_s, adn_n hj] at he
        exact absurd he.symm (ne _ _ (h.kal b0 (by omega)))
    · by_cases hj : j = nc
      · rw [hj, adn_s, adn_n hi] at he
        exact absurd he (ne _ _ (h.kal a0 (by omega)))
      · rw [adn_n hi, adn_n hj] at he
        exact h.inj2 a0 (by omega) b0 (by omega) he
  · intro i j a0 a1 b0 b1 he
    exact h.inj3 a0 a1 b0 b1 he
theorem CW.newM (h : CW base ca ad n nc nm S w) (hI : IC n nc nm S) {a : Nat} (ha : w a = none) (hb : base ≤ a) (f : Nat → Int) : CW base ca (adn ad 3 nm a) (n) (nc) (nm + 1) (nwM S nm f) (wu w a (cMea (adn ad 3 nm a) (nwM S nm f) nm)) := by
  have ne : ∀ (q : Nat) (e : va_E), w q = some e → q ≠ a := fun q e hq z => by rw [z, ha] at hq; cases hq
  obtain ⟨⟨hn, hnc, hnm, e3, e4, e5, -⟩, -⟩ := id hI
  have hS : ∀ (g : Nat) (j : Int), j ≠ nm → (nwM S nm f) g j = S g j := fun g j hj => by simp [nwM, hj]
  have hS0 : ∀ (g : Nat), g ≤ 9 → (nwM S nm f) g 0 = S g 0 := fun g hg => by unfold nwM; rw [if_neg (by omega)]
  refine ⟨⟨?_, ?_, ?_, ?_⟩, h.2.1, ?_, ?_, ?_, ?_, ?_, ?_⟩
  · show wu w a _ (ad 0 0) = _
    rw [wu_n (ne _ _ h.cal), h.cal]
    show _ = some (cCal (adn ad 3 nm a) (nwM S nm f) 0)
    simp only [cCal, hS0 3 (by decide), hS0 4 (by decide), hS0 5 (by decide), hS0 6 (by decide), hS0 7 (by decide), hS0 8 (by decide)]
    rfl
  · show wu w a _ (ad 0 1) = _
    rw [wu_n (ne _ _ h.told), h.told, hS0 3 (by decide)]
    rfl
  · show wu w a _ (ad 0 2) = _
    rw [wu_n (ne _ _ h.made), h.made, hS0 4 (by decide), rw_cong (fun i h1 h2 => adn_n (by omega))]
  · show wu w a _ (ad 0 3) = _
    rw [wu_n (ne _ _ h.log), h.log, hS0 5 (by decide)]
    rfl
  · intro j h0 h1
    show base ≤ ad 1 j ∧ wu w a _ (ad 1 j) = _
    rw [wu_n (ne _ _ (h.ins h0 h1)), h.ins h0 h1]
    refine ⟨h.b1 h0 h1, ?_⟩
    have gR := hI.ins h0 h1
    unfold RI at gR
    have hT : ∀ g : Nat, 10 ≤ g → g ≤ 18 → (nwM S nm f) g j = S g j := fun g h8 h9 => by unfold nwM; rw [if_neg (by omega)]
    simp only [cIns, hT 10 (by decide) (by decide), hT 11 (by decide) (by decide), hT 12 (by decide) (by decide), hT 13 (by decide) (by decide), hT 14 (by decide) (by decide), hT 15 (by decide) (by decide), hT 16 (by decide) (by decide), hT 17 (by decide) (by decide), hT 18 (by decide) (by decide)]
    rfl
  · intro j h0 h1
    show base ≤ ad 2 j ∧ wu w a _ (ad 2 j) = _
    rw [wu_n (ne _ _ (h.kal h0 h1)), h.kal h0 h1]
    refine ⟨h.b2 h0 h1, ?_⟩
    have gR := hI.kal h0 h1
    unfold RK at gR
    have hT : ∀ g : Nat, 20 ≤ g → g ≤ 29 → (nwM S nm f) g j = S g j := fun g h8 h9 => by unfold nwM; rw [if_neg (by omega)]
    simp only [cKal, hT 20 (by decide) (by decide), hT 21 (by decide) (by decide), hT 22 (by decide) (by decide), hT 23 (by decide) (by decide), hT 24 (by decide) (by decide), hT 25 (by decide) (by decide), hT 26 (by decide) (by decide), hT 27 (by decide) (by decide), hT 28 (by decide) (by decide), hT 29 (by decide) (by decide)]
    rfl
  · intro j h0 h1
    by_cases hj : j = nm
    · subst hj
      rw [adn_s]
      exact ⟨hb, wu_s⟩
    · have h2 : j < nm := by omega
      rw [adn_n hj, wu_n (ne _ _ (h.mea h0 h2)), h.mea h0 h2]
      refine ⟨h.b3 h0 h2, ?_⟩
      have gR := hI.mea h0 h2
      unfold RM at gR
      simp only [cMea, hS _ j hj]
      rfl
  · intro i j a0 a1 b0 b1 he
    exact h.inj1 a0 a1 b0 b1 he
  · intro i j a0 a1 b0 b1 he
    exact h.inj2 a0 a1 b0 b1 he
  · intro i j a0 a1 b0 b1 he
    by_cases hi : i = nm
    · by_cases hj : j = nm
      · rw [hi, hj]
      · rw [hi, adn_s, adn_n hj] at he
        exact absurd he.symm (ne _ _ (h.mea b0 (by omega)))
    · by_cases hj : j = nm
      · rw [hj, adn_s, adn_n hi] at he
        exact absurd he (ne _ _ (h.mea a0 (by omega)))
      · rw [adn_n hi, adn_n hj] at he
        exact h.inj3 a0 (by omega) b0 (by omega) he
theorem CW.add3 (h : CW base ca ad n nc nm S w) (h0 : 0 ≤ S 3 0) : CW base ca ad n nc nm (up S 3 0 (S 3 0 + 1)) (wu (wu w (ad 0 1) (eRow (ca 2) 12 (va_up (rw_ (ad 1) (S 3 0)) (S 3 0).toNat (some (ad 1 (S 3 0)))))) (ad 0 0) (.inr (3, (match cCal ad S 0 with | .inr (_, l) => l | _ => []).set 3 (.int (iI (S 3 0 + 1)))))) := by
  have ne1 : ∀ (q : Nat) (e : va_E), w q = some e → (∀ f, e ≠ eRow (ca 2) 12 f) → q ≠ ad 0 1 := fun q e hq hne z => by rw [z, h.told] at hq; exact hne _ (Option.some.inj hq).symm
  have ne0 : ∀ (q : Nat) (e : va_E), w q = some e → (∀ l, e ≠ .inr (3, l)) → q ≠ ad 0 0 := fun q e hq hne z => by rw [z, h.cal] at hq; exact hne _ (Option.some.inj hq).symm
  refine ⟨⟨?_, ?_, ?_, ?_⟩, h.2.1, fun i a b => ⟨h.b1 a b, ?_⟩, fun i a b => ⟨h.b2 a b, ?_⟩, fun i a b => ⟨h.b3 a b, ?_⟩, h.2.2.2.2.2⟩
  · rw [wu_s]
    simp [cCal, up]
  · rw [wu_n (ne0 _ _ h.told (fun l z => by cases z)), wu_s, up_s, rw_add h0]
  · rw [wu_n (ne0 _ _ h.made (fun l z => by cases z)), wu_n (ne1 _ _ h.made (fun f z => by simp at z)), h.made]
    rfl
  · rw [wu_n (ne0 _ _ h.log (fun l z => by cases z)), wu_n (ne1 _ _ h.log (fun f z => by simp at z)), h.log]
    rfl
  · rw [wu_n (ne0 _ _ (h.ins a b) (fun l z => by cases z)), wu_n (ne1 _ _ (h.ins a b) (fun f z => by cases z)), h.ins a b]
    rfl
  · rw [wu_n (ne0 _ _ (h.kal a b) (fun l z => by cases z)), wu_n (ne1 _ _ (h.kal a b) (fun f z => by cases z)), h.kal a b]
    rfl
  · rw [wu_n (ne0 _ _ (h.mea a b) (fun l z => by cases z)), wu_n (ne1 _ _ (h.mea a b) (fun f z => by cases z)), h.mea a b]
    rfl
theorem CW.add4 (h : CW base ca ad n nc nm S w) (h0 : 0 ≤ S 4 0) : CW base ca ad n nc nm (up S 4 0 (S 4 0 + 1)) (wu (wu w (ad 0 2) (eRow (ca 3) 200 (va_up (rw_ (ad 3) (S 4 0)) (S 4 0).toNat (some (ad 3 (S 4 0)))))) (ad 0 0) (.inr (3, (match cCal ad S 0 with | .inr (_, l) => l | _ => []).set 4 (.int (iI (S 4 0 + 1)))))) := by
  have ne1 : ∀ (q : Nat) (e : va_E), w q = some e → (∀ f, e ≠ eRow (ca 3) 200 f) → q ≠ ad 0 2 := fun q e hq hne z => by rw [z, h.made] at hq; exact hne _ (Option.some.inj hq).symm
  have ne0 : ∀ (q : Nat) (e : va_E), w q = some e → (∀ l, e ≠ .inr (3, l)) → q ≠ ad 0 0 := fun q e hq hne z => by rw [z, h.cal] at hq; exact hne _ (Option.some.inj hq).symm
  refine ⟨⟨?_, ?_, ?_, ?_⟩, h.2.1, fun i a b => ⟨h.b1 a b, ?_⟩, fun i a b => ⟨h.b2 a b, ?_⟩, fun i a b => ⟨h.b3 a b, ?_⟩, h.2.2.2.2.2⟩
  · rw [wu_s]
    simp [cCal, up]
  · rw [wu_n (ne0 _ _ h.told (fun l z => by cases z)), wu_n (ne1 _ _ h.told (fun f z => by simp at z)), h.told]
    rfl
  · rw [wu_n (ne0 _ _ h.made (fun l z => by cases z)), wu_s, up_s, rw_add h0]
  · rw [wu_n (ne0 _ _ h.log (fun l z => by cases z)), wu_n (ne1 _ _ h.log (fun f z => by simp at z)), h.log]
    rfl
  · rw [wu_n (ne0 _ _ (h.ins a b) (fun l z => by cases z)), wu_n (ne1 _ _ (h.ins a b) (fun f z => by cases z)), h.ins a b]
    rfl
  · rw [wu_n (ne0 _ _ (h.kal a b) (fun l z => by cases z)), wu_n (ne1 _ _ (h.kal a b) (fun f z => by cases z)), h.kal a b]
    rfl
  · rw [wu_n (ne0 _ _ (h.mea a b) (fun l z => by cases z)), wu_n (ne1 _ _ (h.mea a b) (fun f z => by cases z)), h.mea a b]
    rfl
theorem CW.add5 (h : CW base ca ad n nc nm S w) (h0 : 0 ≤ S 5 0) : CW base ca ad n nc nm (up S 5 0 (S 5 0 + 1)) (wu (wu w (ad 0 3) (eRow (ca 4) 512 (va_up (rw_ (ad 2) (S 5 0)) (S 5 0).toNat (some (ad 2 (S 5 0)))))) (ad 0 0) (.inr (3, (match cCal ad S 0 with | .inr (_, l) => l | _ => []).set 5 (.int (iI (S 5 0 + 1)))))) := by
  have ne1 : ∀ (q : Nat) (e : va_E), w q = some e → (∀ f, e ≠ eRow (ca 4) 512 f) → q ≠ ad 0 3 := fun q e hq hne z => by rw [z, h.log] at hq; exact hne _ (Option.some.inj hq).symm
  have ne0 : ∀ (q : Nat) (e : va_E), w q = some e → (∀ l, e ≠ .inr (3, l)) → q ≠ ad 0 0 := fun q e hq hne z => by rw [z, h.cal] at hq; exact hne _ (Option.some.inj hq).symm
  refine ⟨⟨?_, ?_, ?_, ?_⟩, h.2.1, fun i a b => ⟨h.b1 a b, ?_⟩, fun i a b => ⟨h.b2 a b, ?_⟩, fun i a b => ⟨h.b3 a b, ?_⟩, h.2.2.2.2.2⟩
  · rw [wu_s]
    simp [cCal, up]
  · rw [wu_n (ne0 _ _ h.told (fun l z => by cases z)), wu_n (ne1 _ _ h.told (fun f z => by simp at z)), h.told]
    rfl
  · rw [wu_n (ne0 _ _ h.made (fun l z => by cases z)), wu_n (ne1 _ _ h.made (fun f z => by simp at z)), h.made]
    rfl
  · rw [wu_n (ne0 _ _ h.log (fun l z => by cases z)), wu_s, up_s, rw_add h0]
  · rw [wu_n (ne0 _ _ (h.ins a b) (fun l z => by cases z)), wu_n (ne1 _ _ (h.ins a b) (fun f z => by cases z)), h.ins a b]
    rfl
  · rw [wu_n (ne0 _ _ (h.kal a b) (fun l z => by cases z)), wu_n (ne1 _ _ (h.kal a b) (fun f z => by cases z)), h.kal a b]
    rfl
  · rw [wu_n (ne0 _ _ (h.mea a b) (fun l z => by cases z)), wu_n (ne1 _ _ (h.mea a b) (fun f z => by cases z)), h.mea a b]
    rfl
theorem ja_3 {p : Program} {l : Launch} {e : Env} {R : Room} {s : State} {m : MethodId} {args : Array Value} {below : List Frame} {meth : Method} {c : Code} {Q : State → Prop} {D : va_G} {nL k n9 pc q : Nat} {lv : List (Nat × Value)} {st : List Value} {y : MethodName} {cc : ByteArray} {ret : Option FieldType} (X : Cx p l s m args meth c y cc nL ret D ca base) (hC : CW base ca ad n nc nm S w) {z : Int} {a : Nat} (hz : S 3 0 = z) (h0 : 0 ≤ z) (h1 : z < n) (h2 : z < 12) (ha : a = ad 1 z) (d : decode cc pc = .ok (.aastore, 1)) (hq : pc + 1 = q) (kk : J p l e R s m args below meth c Q D base nL k n9 q lv st (wu w (ad 0 1) (eRow (ca 2) 12 (va_up (rw_ (ad 1) z) z.toNat (some (ad 1 z)))))) : J p l e R s m args below meth c Q D base nL k n9 pc lv (.ref a :: .int (iI z) :: .ref (ad 0 1) :: st) w := by
  subst ha
  subst hz
  exact j_aast X (t := 2) (r := (RX1, TX1, 9)) rfl hC.told (hC.ins h0 h1) rfl ⟨h0, by omega⟩ (by decide) hC.2.1.2.1 d hq kk
theorem jb_3 {p : Program} {l : Launch} {e : Env} {R : Room} {s : State} {m : MethodId} {args : Array Value} {below : List Frame} {meth : Method} {c : Code} {Q : State → Prop} {D : va_G} {nL k n9 pc q : Nat} {lv : List (Nat × Value)} {st : List Value} {y : MethodName} {cc : ByteArray} {ret : Option FieldType} (X : Cx p l s m args meth c y cc nL ret D ca base) {idx : Nat} (hf : FP y.cls idx 3 3 .int false) (hC : CW base ca ad n nc nm S w) {z : Int} (hz : S 3 0 = z) (h0 : 0 ≤ z) (d : decode cc pc = .ok (.putfield idx, 3)) (hq : pc + 3 = q) (kk : ∀ w', CW base ca ad n nc nm (up S 3 0 (z + 1)) w' → Fr 0 w w' → J p l e R s m args below meth c Q D base nL k n9 q lv st w') : J p l e R s m args below meth c Q D base nL k n9 pc lv (.int (iI (z + 1)) :: .ref (ad 0 0) :: st) (wu w (ad 0 1) (eRow (ca 2) 12 (va_up (rw_ (ad 1) z) z.toNat (some (ad 1 z))))) := by
  subst hz
  have hnt : ad 0 0 ≠ ad 0 1 := ne_of_cell hC.cal hC.told (fun z => by cases z)
  exact j_put X hf ((wu_n hnt).trans hC.cal) (Nat.le_of_ble_eq_true rfl) rfl rfl hC.b0 d hq (kk _ (CW.add3 hC h0) ((Fr.set hC.told rfl).tr (Fr.set ((wu_n hnt).trans hC.cal) rfl)))
theorem ja_4 {p : Program} {l : Launch} {e : Env} {R : Room} {s : State} {m : MethodId} {args : Array Value} {below : List Frame} {meth : Method} {c : Code} {Q : State → Prop} {D : va_G} {nL k n9 pc q : Nat} {lv : List (Nat × Value)} {st : List Value} {y : MethodName} {cc : ByteArray} {ret : Option FieldType} (X : Cx p l s m args meth c y cc nL ret D ca base) (hC : CW base ca ad n nc nm S w) {z : Int} {a : Nat} (hz : S 4 0 = z) (h0 : 0 ≤ z) (h1 : z < nm) (h2 : z < 200) (ha : a = ad 3 z) (d : decode cc pc = .ok (.aastore, 1)) (hq : pc + 1 = q) (kk : J p l e R s m args below meth c Q D base nL k n9 q lv st (wu w (ad 0 2) (eRow (ca 3) 200 (va_up (rw_ (ad 3) z) z.toNat (some (ad 3 z)))))) : J p l e R s m args below meth c Q D base nL k n9 pc lv (.ref a :: .int (iI z) :: .ref (ad 0 2) :: st) w := by
  subst ha
  subst hz
  exact j_aast X (t := 3) (r := (RX2, TX2, 3)) rfl hC.made (hC.mea h0 h1) rfl ⟨h0, by omega⟩ (by decide) hC.2.1.2.2.1 d hq kk
theorem jb_4 {p : Program} {l : Launch} {e : Env} {R : Room} {s : State} {m : MethodId} {args : Array Value} {below : List Frame} {meth : Method} {c : Code} {Q : State → Prop} {D : va_G} {nL k n9 pc q : Nat} {lv : List (Nat × Value)} {st : List Value} {y : MethodName} {cc : ByteArray} {ret : Option FieldType} (X : Cx p l s m args meth c y cc nL ret D ca base) {idx : Nat} (hf : FP y.cls idx 3 4 .int false) (hC : CW base ca ad n nc nm S w) {z : Int} (hz : S 4 0 = z) (h0 : 0 ≤ z) (d : decode cc pc = .ok (.putfield idx, 3)) (hq : pc + 3 = q) (kk : ∀ w', CW base ca ad n nc nm (up S 4 0 (z + 1)) w' → Fr 0 w w' → J p l e R s m args below meth c Q D base nL k n9 q lv st w') : J p l e R s m args below meth c Q D base nL k n9 pc lv (.int (iI (z + 1)) :: .ref (ad 0 0) :: st) (wu w (ad 0 2) (eRow (ca 3) 200 (va_up (rw_ (ad 3) z) z.toNat (some (ad 3 z))))) := by
  subst hz
  have hnt : ad 0 0 ≠ ad 0 2 := ne_of_cell hC.cal hC.made (fun z => by cases z)
  exact j_put X hf ((wu_n hnt).trans hC.cal) (Nat.le_of_ble_eq_true rfl) rfl rfl hC.b0 d hq (kk _ (CW.add4 hC h0) ((Fr.set hC.made rfl).tr (Fr.set ((wu_n hnt).trans hC.cal) rfl)))
theorem ja_5 {p : Program} {l : Launch} {e : Env} {R : Room} {s : State} {m : MethodId} {args : Array Value} {below : List Frame} {meth : Method} {c : Code} {Q : State → Prop} {D : va_G} {nL k n9 pc q : Nat} {lv : List (Nat × Value)} {st : List Value} {y : MethodName} {cc : ByteArray} {ret : Option FieldType} (X : Cx p l s m args meth c y cc nL ret D ca base) (hC : CW base ca ad n nc nm S w) {z : Int} {a : Nat} (hz : S 5 0 = z) (h0 : 0 ≤ z) (h1 : z < nc) (h2 : z < 512) (ha : a = ad 2 z) (d : decode cc pc = .ok (.aastore, 1)) (hq : pc + 1 = q) (kk : J p l e R s m args below meth c Q D base nL k n9 q lv st (wu w (ad 0 3) (eRow (ca 4) 512 (va_up (rw_ (ad 2) z) z.toNat (some (ad 2 z)))))) : J p l e R s m args below meth c Q D base nL k n9 pc lv (.ref a :: .int (iI z) :: .ref (ad 0 3) :: st) w := by
  subst ha
  subst hz
  exact j_aast X (t := 4) (r := (RX0, TX0, 10)) rfl hC.log (hC.kal h0 h1) rfl ⟨h0, by omega⟩ (by decide) hC.2.1.2.2.2 d hq kk
theorem jb_5 {p : Program} {l : Launch} {e : Env} {R : Room} {s : State} {m : MethodId} {args : Array Value} {below : List Frame} {meth : Method} {c : Code} {Q : State → Prop} {D : va_G} {nL k n9 pc q : Nat} {lv : List (Nat × Value)} {st : List Value} {y : MethodName} {cc : ByteArray} {ret : Option FieldType} (X : Cx p l s m args meth c y cc nL ret D ca base) {idx : Nat} (hf : FP y.cls idx 3 5 .int false) (hC : CW base ca ad n nc nm S w) {z : Int} (hz : S 5 0 = z) (h0 : 0 ≤ z) (d : decode cc pc = .ok (.putfield idx, 3)) (hq : pc + 3 = q) (kk : ∀ w', CW base ca ad n nc nm (up S 5 0 (z + 1)) w' → Fr 0 w w' → J p l e R s m args below meth c Q D base nL k n9 q lv st w') : J p l e R s m args below meth c Q D base nL k n9 pc lv (.int (iI (z + 1)) :: .ref (ad 0 0) :: st) (wu w (ad 0 3) (eRow (ca 4) 512 (va_up (rw_ (ad 2) z) z.toNat (some (ad 2 z))))) := by
  subst hz
  have hnt : ad 0 0 ≠ ad 0 3 := ne_of_cell hC.cal hC.log (fun z => by cases z)
  exact j_put X hf ((wu_n hnt).trans hC.cal) (Nat.le_of_ble_eq_true rfl) rfl rfl hC.b0 d hq (kk _ (CW.add5 hC h0) ((Fr.set hC.log rfl).tr (Fr.set ((wu_n hnt).trans hC.cal) rfl)))
end CWNEW
