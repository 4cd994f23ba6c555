def fsm (am : Nat → Nat) (m : Nat) : List Value := [.int (iI 0), .int (iI 0), .int (iI 0), .int (iI 0), (if 4 < m then .ref (am 4) else .null), (if 5 < m then .ref (am 5) else .null), (if 6 < m then .ref (am 6) else .null), (if 7 < m then .ref (am 7) else .null), (if 8 < m then .ref (am 8) else .null), (if 9 < m then .ref (am 9) else .null), (if 10 < m then .ref (am 10) else .null), (if 11 < m then .ref (am 11) else .null), (if 12 < m then .ref (am 12) else .null), (if 13 < m then .ref (am 13) else .null), (if 14 < m then .ref (am 14) else .null), (if 15 < m then .ref (am 15) else .null), (if 16 < m then .ref (am 16) else .null), (if 17 < m then .ref (am 17) else .null), .int (iI 0), (if 19 < m then .ref (am 19) else .null), (if 20 < m then .ref (am 20) else .null), (if 21 < m then .ref (am 21) else .null)]
def PW (base : Nat) (ca : Nat → ClassId) (am : Nat → Nat) (m : Nat) (w : Wd) : Prop := (w (am 0) = some (.inr (4, fsm am m)) ∧ base ≤ am 0) ∧ (∀ f, isA f → f < m → base ≤ am f ∧ w (am f) = some (eArr ca S0 f)) ∧ ∀ f g, isA f → isA g → f < m → g < m → am f = am g → f = g
def amS (am : Nat → Nat) (f a : Nat) : Nat → Nat := fun g => if g = f then a else am g
theorem PW.step {base : Nat} {ca : Nat → ClassId} {am : Nat → Nat} {f a : Nat} {w : Wd} (h : PW base ca am f w) (hf : isA f) (hn : w a = none) (hb : base ≤ a) : PW base ca (amS am f a) (f + 1) (wu (wu w a (eArr ca S0 f)) (am 0) (.inr (4, fsm (amS am f a) (f + 1)))) := by
  obtain ⟨⟨h1, h2⟩, h3, h4⟩ := h
  have e0 : amS am f a 0 = am 0 := by unfold amS; rw [if_neg (by omega)]
  have ef : amS am f a f = a := by unfold amS; rw [if_pos rfl]
  have eo : ∀ g, g ≠ f → amS am f a g = am g := fun g hg => by unfold amS; rw [if_neg hg]
  have na : a ≠ am 0 := fun z => by rw [z, h1] at hn; cases hn
  refine ⟨⟨by rw [e0, wu_s], by rw [e0]; exact h2⟩, fun g hg hlt => ?_, fun g k hg hk h5 h6 e => ?_⟩
  · by_cases hgf : g = f
    · subst hgf
      rw [ef, wu_n na, wu_s]
      exact ⟨hb, rfl⟩
    · obtain ⟨h5, h6⟩ := h3 g hg (by omega)
      rw [eo g hgf, wu_n (ne_of_cell h6 h1 (fun z => by cases z)), wu_n (fun z => by rw [z, hn] at h6; cases h6)]
      exact ⟨h5, h6⟩
  · by_cases c1 : g = f
    · by_cases c2 : k = f
      · rw [c1, c2]
      · rw [c1, ef, eo k c2] at e
        have := (h3 k hk (by omega)).2
        rw [← e, hn] at this
        cases this
    · by_cases c2 : k = f
      · rw [c2, ef, eo g c1] at e
        have := (h3 g hg (by omega)).2
        rw [e, hn] at this
        cases this
      · rw [eo g c1, eo k c2] at e
        exact h4 g k hg hk (by omega) (by omega) e
set_option maxRecDepth 100000 in
set_option maxHeartbeats 4000000 in
theorem c_X4_init {l : Launch} (hlt : l.stackTraces = false) {D : va_G} {ca : Nat → ClassId} {base : Nat} {w : Wd} (b : Nat) (hw : w b = some (.inr (4, [.int 0, .int 0, .int 0, .int 0, .null, .null, .null, .null, .null, .null, .null, .null, .null, .null, .null, .null, .null, .null, .int 0, .null, .null, .null]))) (hb : base ≤ b) : CT l D ca base yX4_init cX4_init 1 none 0 17 936 [.ref (b)] w (fun v w' => v = none ∧ (∃ am : Nat → Nat, am 0 = b ∧ MW base ca am 0 S0 w') ∧ Fr 1 w w') (fun _ _ => False) := by
  refine CT.mk hlt (by decide +kernel) (by first | exact Nat.le_of_ble_eq_true rfl | simp [lg_sl, cat_rf, cat_i, cat_l, cat_r]) ?_
  intro p e s m args below meth c X htab
  rw [show lv_args 0 [.ref (b)] = [(0, .ref (b))] from by first | rfl | simp [lv_args, cat_rf, cat_i, cat_l, cat_r]]
  refine j_aload_n X dX4_init_0 (q := 1) rfl 0 rfl ?_
  refine j_objInit X oi_X4_1.1 oi_X4_1.2.1 oi_X4_1.2.2 (by decide) dX4_init_1 (q := 4) rfl ?_
  obtain ⟨am4, ham4⟩ : ∃ am : Nat → Nat, am = fun _ => b := ⟨_, rfl⟩
  have hz4 : am4 0 = b := by rw [ham4]
  have hP4 : PW base ca am4 4 w := ⟨⟨by rw [hz4, hw]; rfl, by rw [hz4]; exact hb⟩, fun f h1 h2 => absurd h1.1.1 (by omega), fun f g h1 _ h2 => absurd h1.1.1 (by omega)⟩
  have hF4 : Fr 1 w w := Fr.rf
  obtain ⟨w4, hw4⟩ : ∃ w4, w4 = w := ⟨_, rfl⟩
  rw [← hw4] at hP4
  refine j_w (w' := w4) hw4.symm ?_
  replace hF4 : Fr 1 w w4 := by rw [hw4]; exact Fr.rf
  refine j_aload_n X dX4_init_4 (q := 5) rfl 0 rfl ?_
  refine j_bipush X (a := 12) (by decide +kernel) dX4_init_5 (q := 7) rfl ?_
  refine j_newa X (N := 12) (t := 0) (ty := .int) (con := (12, .inl (fun _ => iI 0))) rfl rfl (fun C z => by cases z) ar_int (fun _ => rfl) (by decide) (by decide) (by decide) (by decide) dX4_init_7 (q := 9) rfl (fun a4 hb4 hn4 => ?_)
  refine j_w (w' := (wu w4 a4 (eArr ca S0 4))) rfl ?_
  have hc4 : (wu w4 a4 (eArr ca S0 4)) b = some (.inr (4, fsm am4 4)) := by rw [← hz4, wu_n (fun z => by rw [← z, hP4.1.1] at hn4; cases hn4)]; exact hP4.1.1
  refine j_putF X fp_X4_7 rfl rfl hc4 (Nat.le_of_ble_eq_true rfl) rfl rfl hb dX4_init_9 (q := 12) rfl ?_
  have hP4b := hP4.step (by decide) hn4 hb4
  have hFn4 : Fr 1 w (wu (wu w4 a4 (eArr ca S0 4)) (am4 0) (.inr (4, fsm (amS am4 4 a4) 5))) := (hF4.tr (Fr.new hn4)).tr (Fr.set (by rw [hz4]; exact hc4) rfl)
  refine j_w (w' := wu (wu w4 a4 (eArr ca S0 4)) (am4 0) (.inr (4, fsm (amS am4 4 a4) 5))) (by rw [hz4]; rfl) ?_
  have hz5 : amS am4 4 a4 0 = b := hz4
  generalize (wu (wu w4 a4 (eArr ca S0 4)) (am4 0) (.inr (4, fsm (amS am4 4 a4) 5))) = w5 at hP4b hFn4 ⊢
  generalize amS am4 4 a4 = am5 at hP4b hz5
  have hP5 := hP4b
  have hF5 := hFn4
  refine j_aload_n X dX4_init_12 (q := 13) rfl 0 rfl ?_
  refine j_bipush X (a := 12) (by decide +kernel) dX4_init_13 (q := 15) rfl ?_
  refine j_newa X (N := 12) (t := 0) (ty := .int) (con := (12, .inl (fun _ => iI 0))) rfl rfl (fun C z => by cases z) ar_int (fun _ => rfl) (by decide) (by decide) (by decide) (by decide) dX4_init_15 (q := 17) rfl (fun a5 hb5 hn5 => ?_)
  refine j_w (w' := (wu w5 a5 (eArr ca S0 5))) rfl ?_
  have hc5 : (wu w5 a5 (eArr ca S0 5)) b = some (.inr (4, fsm am5 5)) := by rw [← hz5, wu_n (fun z => by rw [← z, hP5.1.1] at hn5; cases hn5)]; exact hP5.1.1
  refine j_putF X fp_X4_13 rfl rfl hc5 (Nat.le_of_ble_eq_true rfl) rfl rfl hb dX4_init_17 (q := 20) rfl ?_
  have hP5b := hP5.step (by decide) hn5 hb5
  have hFn5 : Fr 1 w (wu (wu w5 a5 (eArr ca S0 5)) (am5 0) (.inr (4, fsm (amS am5 5 a5) 6))) := (hF5.tr (Fr.new hn5)).tr (Fr.set (by rw [hz5]; exact hc5) rfl)
  refine j_w (w' := wu (wu w5 a5 (eArr ca S0 5)) (am5 0) (.inr (4, fsm (amS am5 5 a5) 6))) (by rw [hz5]; rfl) ?_
  have hz6 : amS am5 5 a5 0 = b := hz5
  generalize (wu (wu w5 a5 (eArr ca S0 5)) (am5 0) (.inr (4, fsm (amS am5 5 a5) 6))) = w6 at hP5b hFn5 ⊢
  generalize amS am5 5 a5 = am6 at hP5b hz6
  have hP6 := hP5b
  have hF6 := hFn5
  refine j_aload_n X dX4_init_20 (q := 21) rfl 0 rfl ?_
  refine j_bipush X (a := 12) (by decide +kernel) dX4_init_21 (q := 23) rfl ?_
  refine j_newa X (N := 12) (t := 0) (ty := .int) (con := (12, .inl (fun _ => iI 0))) rfl rfl (fun C z => by cases z) ar_int (fun _ => rfl) (by decide) (by decide) (by decide) (by decide) dX4_init_23 (q := 25) rfl (fun a6 hb6 hn6 => ?_)
  refine j_w (w' := (wu w6 a6 (eArr ca S0 6))) rfl ?_
  have hc6 : (wu w6 a6 (eArr ca S0 6)) b = some (.inr (4, fsm am6 6)) := by rw [← hz6, wu_n (fun z => by rw [← z, hP6.1.1] at hn6; cases hn6)]; exact hP6.1.1
  refine j_putF X fp_X4_16 rfl rfl hc6 (Nat.le_of_ble_eq_true rfl) rfl rfl hb dX4_init_25 (q := 28) rfl ?_
  have hP6b := hP6.step (by decide) hn6 hb6
  have hFn6 : Fr 1 w (wu (wu w6 a6 (eArr ca S0 6)) (am6 0) (.inr (4, fsm (amS am6 6 a6) 7))) := (hF6.tr (Fr.new hn6)).tr (Fr.set (by rw [hz6]; exact hc6) rfl)
  refine j_w (w' := wu (wu w6 a6 (eArr ca S0 6)) (am6 0) (.inr (4, fsm (amS am6 6 a6) 7))) (by rw [hz6]; rfl) ?_
  have hz7 : amS am6 6 a6 0 = b := hz6
  generalize (wu (wu w6 a6 (eArr ca S0 6)) (am6 0) (.inr (4, fsm (amS am6 6 a6) 7))) = w7 at hP6b hFn6 ⊢
  generalize amS am6 6 a6 = am7 at hP6b hz7
  have hP7 := hP6b
  have hF7 := hFn6
  refine j_aload_n X dX4_init_28 (q := 29) rfl 0 rfl ?_
  refine j_bipush X (a := 12) (by decide +kernel) dX4_init_29 (q := 31) rfl ?_
  refine j_newa X (N := 12) (t := 0) (ty := .int) (con := (12, .inl (fun _ => iI 0))) rfl rfl (fun C z => by cases z) ar_int (fun _ => rfl) (by decide) (by decide) (by decide) (by decide) dX4_init_31 (q := 33) rfl (fun a7 hb7 hn7 => ?_)
  refine j_w (w' := (wu w7 a7 (eArr ca S0 7))) rfl ?_
  have hc7 : (wu w7 a7 (eArr ca S0 7)) b = some (.inr (4, fsm am7 7)) := by rw [← hz7, wu_n (fun z => by rw [← z, hP7.1.1] at hn7; cases hn7)]; exact hP7.1.1
  refine j_putF X fp_X4_19 rfl rfl hc7 (Nat.le_of_ble_eq_true rfl) rfl rfl hb dX4_init_33 (q := 36) rfl ?_
  have hP7b := hP7.step (by decide) hn7 hb7
  have hFn7 : Fr 1 w (wu (wu w7 a7 (eArr ca S0 7)) (am7 0) (.inr (4, fsm (amS am7 7 a7) 8))) := (hF7.tr (Fr.new hn7)).tr (Fr.set (by rw [hz7]; exact hc7) rfl)
  refine j_w (w' := wu (wu w7 a7 (eArr ca S0 7)) (am7 0) (.inr (4, fsm (amS am7 7 a7) 8))) (by rw [hz7]; rfl) ?_
  have hz8 : amS am7 7 a7 0 = b := hz7
  generalize (wu (wu w7 a7 (eArr ca S0 7)) (am7 0) (.inr (4, fsm (amS am7 7 a7) 8))) = w8 at hP7b hFn7 ⊢
  generalize amS am7 7 a7 = am8 at hP7b hz8
  have hP8 := hP7b
  have hF8 := hFn7
  refine j_aload_n X dX4_init_36 (q := 37) rfl 0 rfl ?_
  refine j_bipush X (a := 12) (by decide +kernel) dX4_init_37 (q := 39) rfl ?_
  refine j_newa X (N := 12) (t := 0) (ty := .int) (con := (12, .inl (fun _ => iI 0))) rfl rfl (fun C z => by cases z) ar_int (fun _ => rfl) (by decide) (by decide) (by decide) (by decide) dX4_init_39 (q := 41) rfl (fun a8 hb8 hn8 => ?_)
  refine j_w (w' := (wu w8 a8 (eArr ca S0 8))) rfl ?_
  have hc8 : (wu w8 a8 (eArr ca S0 8)) b = some (.inr (4, fsm am8 8)) := by rw [← hz8, wu_n (fun z => by rw [← z, hP8.1.1] at hn8; cases hn8)]; exact hP8.1.1
  refine j_putF X fp_X4_22 rfl rfl hc8 (Nat.le_of_ble_eq_true rfl) rfl rfl hb dX4_init_41 (q := 44) rfl ?_
  have hP8b := hP8.step (by decide) hn8 hb8
  have hFn8 : Fr 1 w (wu (wu w8 a8 (eArr ca S0 8)) (am8 0) (.inr (4, fsm (amS am8 8 a8) 9))) := (hF8.tr (Fr.new hn8)).tr (Fr.set (by rw [hz8]; exact hc8) rfl)
  refine j_w (w' := wu (wu w8 a8 (eArr ca S0 8)) (am8 0) (.inr (4, fsm (amS am8 8 a8) 9))) (by rw [hz8]; rfl) ?_
  have hz9 : amS am8 8 a8 0 = b := hz8
  generalize (wu (wu w8 a8 (eArr ca S0 8)) (am8 0) (.inr (4, fsm (amS am8 8 a8) 9))) = w9 at hP8b hFn8 ⊢
  generalize amS am8 8 a8 = am9 at hP8b hz9
  have hP9 := hP8b
  have hF9 := hFn8
  refine j_aload_n X dX4_init_44 (q := 45) rfl 0 rfl ?_
  refine j_bipush X (a := 12) (by decide +kernel) dX4_init_45 (q := 47) rfl ?_
  refine j_newa X (N := 12) (t := 0) (ty := .int) (con := (12, .inl (fun _ => iI 0))) rfl rfl (fun C z => by cases z) ar_int (fun _ => rfl) (by decide) (by decide) (by decide) (by decide) dX4_init_47 (q := 49) rfl (fun a9 hb9 hn9 => ?_)
  refine j_w (w' := (wu w9 a9 (eArr ca S0 9))) rfl ?_
  have hc9 : (wu w9 a9 (eArr ca S0 9)) b = some (.inr (4, fsm am9 9)) := by rw [← hz9, wu_n (fun z => by rw [← z, hP9.1.1] at hn9; cases hn9)]; exact hP9.1.1
  refine j_putF X fp_X4_25 rfl rfl hc9 (Nat.le_of_ble_eq_true rfl) rfl rfl hb dX4_init_49 (q := 52) rfl ?_
  have hP9b := hP9.step (by decide) hn9 hb9
  have hFn9 : Fr 1 w (wu (wu w9 a9 (eArr ca S0 9)) (am9 0) (.inr (4, fsm (amS am9 9 a9) 10))) := (hF9.tr (Fr.new hn9)).tr (Fr.set (by rw [hz9]; exact hc9) rfl)
  refine j_w (w' := wu (wu w9 a9 (eArr ca S0 9)) (am9 0) (.inr (4, fsm (amS am9 9 a9) 10))) (by rw [hz9]; rfl) ?_
  have hz10 : amS am9 9 a9 0 = b := hz9
  generalize (wu (wu w9 a9 (eArr ca S0 9)) (am9 0) (.inr (4, fsm (amS am9 9 a9) 10))) = w10 at hP9b hFn9 ⊢
  generalize amS am9 9 a9 = am10 at hP9b hz10
  have hP10 := hP9b
  have hF10 := hFn9
  refine j_aload_n X dX4_init_52 (q := 53) rfl 0 rfl ?_
  refine j_bipush X (a := 12) (by decide +kernel) dX4_init_53 (q := 55) rfl ?_
  refine j_newa X (N := 12) (t := 0) (ty := .int) (con := (12, .inl (fun _ => iI 0))) rfl rfl (fun C z => by cases z) ar_int (fun _ => rfl) (by decide) (by decide) (by decide) (by decide) dX4_init_55 (q := 57) rfl (fun a10 hb10 hn10 => ?_)
  refine j_w (w' := (wu w10 a10 (eArr ca S0 10))) rfl ?_
  have hc10 : (wu w10 a10 (eArr ca S0 10)) b = some (.inr (4, fsm am10 10)) := by rw [← hz10, wu_n (fun z => by rw [← z, hP10.1.1] at hn10; cases hn10)]; exact hP10.1.1
  refine j_putF X fp_X4_28 rfl rfl hc10 (Nat.le_of_ble_eq_true rfl) rfl rfl hb dX4_init_57 (q := 60) rfl ?_
  have hP10b := hP10.step (by decide) hn10 hb10
  have hFn10 : Fr 1 w (wu (wu w10 a10 (eArr ca S0 10)) (am10 0) (.inr (4, fsm (amS am10 10 a10) 11))) := (hF10.tr (Fr.new hn10)).tr (Fr.set (by rw [hz10]; exact hc10) rfl)
  refine j_w (w' := wu (wu w10 a10 (eArr ca S0 10)) (am10 0) (.inr (4, fsm (amS am10 10 a10) 11))) (by rw [hz10]; rfl) ?_
  have hz11 : amS am10 10 a10 0 = b := hz10
  generalize (wu (wu w10 a10 (eArr ca S0 10)) (am10 0) (.inr (4, fsm (amS am10 10 a10) 11))) = w11 at hP10b hFn10 ⊢
  generalize amS am10 10 a10 = am11 at hP10b hz11
  have hP11 := hP10b
  have hF11 := hFn10
  refine j_aload_n X dX4_init_60 (q := 61) rfl 0 rfl ?_
  refine j_bipush X (a := 12) (by decide +kernel) dX4_init_61 (q := 63) rfl ?_
  refine j_newa X (N := 12) (t := 0) (ty := .int) (con := (12, .inl (fun _ => iI 0))) rfl rfl (fun C z => by cases z) ar_int (fun _ => rfl) (by decide) (by decide) (by decide) (by decide) dX4_init_63 (q := 65) rfl (fun a11 hb11 hn11 => ?_)
  refine j_w (w' := (wu w11 a11 (eArr ca S0 11))) rfl ?_
  have hc11 : (wu w11 a11 (eArr ca S0 11)) b = some (.inr (4, fsm am11 11)) := by rw [← hz11, wu_n (fun z => by rw [← z, hP11.1.1] at hn11; cases hn11)]; exact hP11.1.1
  refine j_putF X fp_X4_31 rfl rfl hc11 (Nat.le_of_ble_eq_true rfl) rfl rfl hb dX4_init_65 (q := 68) rfl ?_
  have hP11b := hP11.step (by decide) hn11 hb11
  have hFn11 : Fr 1 w (wu (wu w11 a11 (eArr ca S0 11)) (am11 0) (.inr (4, fsm (amS am11 11 a11) 12))) := (hF11.tr (Fr.new hn11)).tr (Fr.set (by rw [hz11]; exact hc11) rfl)
  refine j_w (w' := wu (wu w11 a11 (eArr ca S0 11)) (am11 0) (.inr (4, fsm (amS am11 11 a11) 12))) (by rw [hz11]; rfl) ?_
  have hz12 : amS am11 11 a11 0 = b := hz11
  generalize (wu (wu w11 a11 (eArr ca S0 11)) (am11 0) (.inr (4, fsm (amS am11 11 a11) 12))) = w12 at hP11b hFn11 ⊢
  generalize amS am11 11 a11 = am12 at hP11b hz12
  have hP12 := hP11b
  have hF12 := hFn11
  refine j_aload_n X dX4_init_68 (q := 69) rfl 0 rfl ?_
  refine j_bipush X (a := 12) (by decide +kernel) dX4_init_69 (q := 71) rfl ?_
  refine j_newa X (N := 12) (t := 0) (ty := .int) (con := (12, .inl (fun _ => iI 0))) rfl rfl (fun C z => by cases z) ar_int (fun _ => rfl) (by decide) (by decide) (by decide) (by decide) dX4_init_71 (q := 73) rfl (fun a12 hb12 hn12 => ?_)
  refine j_w (w' := (wu w12 a12 (eArr ca S0 12))) rfl ?_
  have hc12 : (wu w12 a12 (eArr ca S0 12)) b = some (.inr (4, fsm am12 12)) := by rw [← hz12, wu_n (fun z => by rw [← z, hP12.1.1] at hn12; cases hn12)]; exact hP12.1.1
  refine j_putF X fp_X4_34 rfl rfl hc12 (Nat.le_of_ble_eq_true rfl) rfl rfl hb dX4_init_73 (q := 76) rfl ?_
  have hP12b := hP12.step (by decide) hn12 hb12
  have hFn12 : Fr 1 w (wu (wu w12 a12 (eArr ca S0 12)) (am12 0) (.inr (4, fsm (amS am12 12 a12) 13))) := (hF12.tr (Fr.new hn12)).tr (Fr.set (by rw [hz12]; exact hc12) rfl)
  refine j_w (w' := wu (wu w12 a12 (eArr ca S0 12)) (am12 0) (.inr (4, fsm (amS am12 12 a12) 13))) (by rw [hz12]; rfl) ?_
  have hz13 : amS am12 12 a12 0 = b := hz12
  generalize (wu (wu w12 a12 (eArr ca S0 12)) (am12 0) (.inr (4, fsm (amS am12 12 a12) 13))) = w13 at hP12b hFn12 ⊢
  generalize amS am12 12 a12 = am13 at hP12b hz13
  have hP13 := hP12b
  have hF13 := hFn12
  refine j_aload_n X dX4_init_76 (q := 77) rfl 0 rfl ?_
  refine j_bipush X (a := 12) (by decide +kernel) dX4_init_77 (q := 79) rfl ?_
  refine j_newa X (N := 12) (t := 1) (ty := .boolean) (con := (12, .inl (fun _ => iI 0))) rfl rfl (fun C z => by cases z) ar_boolean (fun _ => rfl) (by decide) (by decide) (by decide) (by decide) dX4_init_79 (q := 81) rfl (fun a13 hb13 hn13 => ?_)
  refine j_w (w' := (wu w13 a13 (eArr ca S0 13))) rfl ?_
  have hc13 : (wu w13 a13 (eArr ca S0 13)) b = some (.inr (4, fsm am13 13)) := by rw [← hz13, wu_n (fun z => by rw [← z, hP13.1.1] at hn13; cases hn13)]; exact hP13.1.1
  refine j_putF X fp_X4_37 rfl rfl hc13 (Nat.le_of_ble_eq_true rfl) rfl rfl hb dX4_init_81 (q := 84) rfl ?_
  have hP13b := hP13.step (by decide) hn13 hb13
  have hFn13 : Fr 1 w (wu (wu w13 a13 (eArr ca S0 13)) (am13 0) (.inr (4, fsm (amS am13 13 a13) 14))) := (hF13.tr (Fr.new hn13)).tr (Fr.set (by rw [hz13]; exact hc13) rfl)
  refine j_w (w' := wu (wu w13 a13 (eArr ca S0 13)) (am13 0) (.inr (4, fsm (amS am13 13 a13) 14))) (by rw [hz13]; rfl) ?_
  have hz14 : amS am13 13 a13 0 = b := hz13
  generalize (wu (wu w13 a13 (eArr ca S0 13)) (am13 0) (.inr (4, fsm (amS am13 13 a13) 14))) = w14 at hP13b hFn13 ⊢
  generalize amS am13 13 a13 = am14 at hP13b hz14
  have hP14 := hP13b
  have hF14 := hFn13
  refine j_aload_n X dX4_init_84 (q := 85) rfl 0 rfl ?_
  refine j_bipush X (a := 12) (by decide +kernel) dX4_init_85 (q := 87) rfl ?_
  refine j_newa X (N := 12) (t := 0) (ty := .int) (con := (12, .inl (fun _ => iI 0))) rfl rfl (fun C z => by cases z) ar_int (fun _ => rfl) (by decide) (by decide) (by decide) (by decide) dX4_init_87 (q := 89) rfl (fun a14 hb14 hn14 => ?_)
  refine j_w (w' := (wu w14 a14 (eArr ca S0 14))) rfl ?_
  have hc14 : (wu w14 a14 (eArr ca S0 14)) b = some (.inr (4, fsm am14 14)) := by rw [← hz14, wu_n (fun z => by rw [← z, hP14.1.1] at hn14; cases hn14)]; exact hP14.1.1
  refine j_putF X fp_X4_41 rfl rfl hc14 (Nat.le_of_ble_eq_true rfl) rfl rfl hb dX4_init_89 (q := 92) rfl ?_
  have hP14b := hP14.step (by decide) hn14 hb14
  have hFn14 : Fr 1 w (wu (wu w14 a14 (eArr ca S0 14)) (am14 0) (.inr (4, fsm (amS am14 14 a14) 15))) := (hF14.tr (Fr.new hn14)).tr (Fr.set (by rw [hz14]; exact hc14) rfl)
  refine j_w (w' := wu (wu w14 a14 (eArr ca S0 14)) (am14 0) (.inr (4, fsm (amS am14 14 a14) 15))) (by rw [hz14]; rfl) ?_
  have hz15 : amS am14 14 a14 0 = b := hz14
  generalize (wu (wu w14 a14 (eArr ca S0 14)) (am14 0) (.inr (4, fsm (amS am14 14 a14) 15))) = w15 at hP14b hFn14 ⊢
  generalize amS am14 14 a14 = am15 at hP14b hz15
  have hP15 := hP14b
  have hF15 := hFn14
  refine j_aload_n X dX4_init_92 (q := 93) rfl 0 rfl ?_
  refine j_bipush X (a := 12) (by decide +kernel) dX4_init_93 (q := 95) rfl ?_
  refine j_newa X (N := 12) (t := 0) (ty := .int) (con := (12, .inl (fun _ => iI 0))) rfl rfl (fun C z => by cases z) ar_int (fun _ => rfl) (by decide) (by decide) (by decide) (by decide) dX4_init_95 (q := 97) rfl (fun a15 hb15 hn15 => ?_)
  refine j_w (w' := (wu w15 a15 (eArr ca S0 15))) rfl ?_
  have hc15 : (wu w15 a15 (eArr ca S0 15)) b = some (.inr (4, fsm am15 15)) := by rw [← hz15, wu_n (fun z => by rw [← z, hP15.1.1] at hn15; cases hn15)]; exact hP15.1.1
  refine j_putF X fp_X4_44 rfl rfl hc15 (Nat.le_of_ble_eq_true rfl) rfl rfl hb dX4_init_97 (q := 100) rfl ?_
  have hP15b := hP15.step (by decide) hn15 hb15
  have hFn15 : Fr 1 w (wu (wu w15 a15 (eArr ca S0 15)) (am15 0) (.inr (4, fsm (amS am15 15 a15) 16))) := (hF15.tr (Fr.new hn15)).tr (Fr.set (by rw [hz15]; exact hc15) rfl)
  refine j_w (w' := wu (wu w15 a15 (eArr ca S0 15)) (am15 0) (.inr (4, fsm (amS am15 15 a15) 16))) (by rw [hz15]; rfl) ?_
  have hz16 : amS am15 15 a15 0 = b := hz15
  generalize (wu (wu w15 a15 (eArr ca S0 15)) (am15 0) (.inr (4, fsm (amS am15 15 a15) 16))) = w16 at hP15b hFn15 ⊢
  generalize amS am15 15 a15 = am16 at hP15b hz16
  have hP16 := hP15b
  have hF16 := hFn15
  refine j_aload_n X dX4_init_100 (q := 101) rfl 0 rfl ?_
  refine j_bipush X (a := 96) (by decide +kernel) dX4_init_101 (q := 103) rfl ?_
  refine j_newa X (N := 96) (t := 0) (ty := .int) (con := (96, .inl (fun _ => iI 0))) rfl rfl (fun C z => by cases z) ar_int (fun _ => rfl) (by decide) (by decide) (by decide) (by decide) dX4_init_103 (q := 105) rfl (fun a16 hb16 hn16 => ?_)
  refine j_w (w' := (wu w16 a16 (eArr ca S0 16))) rfl ?_
  have hc16 : (wu w16 a16 (eArr ca S0 16)) b = some (.inr (4, fsm am16 16)) := by rw [← hz16, wu_n (fun z => by rw [← z, hP16.1.1] at hn16; cases hn16)]; exact hP16.1.1
  refine j_putF X fp_X4_47 rfl rfl hc16 (Nat.le_of_ble_eq_true rfl) rfl rfl hb dX4_init_105 (q := 108) rfl ?_
  have hP16b := hP16.step (by decide) hn16 hb16
  have hFn16 : Fr 1 w (wu (wu w16 a16 (eArr ca S0 16)) (am16 0) (.inr (4, fsm (amS am16 16 a16) 17))) := (hF16.tr (Fr.new hn16)).tr (Fr.set (by rw [hz16]; exact hc16) rfl)
  refine j_w (w' := wu (wu w16 a16 (eArr ca S0 16)) (am16 0) (.inr (4, fsm (amS am16 16 a16) 17))) (by rw [hz16]; rfl) ?_
  have hz17 : amS am16 16 a16 0 = b := hz16
  generalize (wu (wu w16 a16 (eArr ca S0 16)) (am16 0) (.inr (4, fsm (amS am16 16 a16) 17))) = w17 at hP16b hFn16 ⊢
  generalize amS am16 16 a16 = am17 at hP16b hz17
  have hP17 := hP16b
  have hF17 := hFn16
  refine j_aload_n X dX4_init_108 (q := 109) rfl 0 rfl ?_
  refine j_bipush X (a := 96) (by decide +kernel) dX4_init_109 (q := 111) rfl ?_
  refine j_newa X (N := 96) (t := 0) (ty := .int) (con := (96, .inl (fun _ => iI 0))) rfl rfl (fun C z => by cases z) ar_int (fun _ => rfl) (by decide) (by decide) (by decide) (by decide) dX4_init_111 (q := 113) rfl (fun a17 hb17 hn17 => ?_)
  refine j_w (w' := (wu w17 a17 (eArr ca S0 17))) rfl ?_
  have hc17 : (wu w17 a17 (eArr ca S0 17)) b = some (.inr (4, fsm am17 17)) := by rw [← hz17, wu_n (fun z => by rw [← z, hP17.1.1] at hn17; cases hn17)]; exact hP17.1.1
  refine j_putF X fp_X4_50 rfl rfl hc17 (Nat.le_of_ble_eq_true rfl) rfl rfl hb dX4_init_113 (q := 116) rfl ?_
  have hP17b := hP17.step (by decide) hn17 hb17
  have hFn17 : Fr 1 w (wu (wu w17 a17 (eArr ca S0 17)) (am17 0) (.inr (4, fsm (amS am17 17 a17) 18))) := (hF17.tr (Fr.new hn17)).tr (Fr.set (by rw [hz17]; exact hc17) rfl)
  refine j_w (w' := wu (wu w17 a17 (eArr ca S0 17)) (am17 0) (.inr (4, fsm (amS am17 17 a17) 18))) (by rw [hz17]; rfl) ?_
  have hz19 : amS am17 17 a17 0 = b := hz17
  generalize (wu (wu w17 a17 (eArr ca S0 17)) (am17 0) (.inr (4, fsm (amS am17 17 a17) 18))) = w19 at hP17b hFn17 ⊢
  generalize amS am17 17 a17 = am19 at hP17b hz19
  have hP19 : PW base ca am19 19 w19 := ⟨⟨hP17b.1.1, hP17b.1.2⟩, fun f h1 h2 => hP17b.2.1 f h1 (by omega), fun f g h1 h2 h3 h4 => hP17b.2.2 f g h1 h2 (by omega) (by omega)⟩
  have hF19 := hFn17
  refine j_aload_n X dX4_init_116 (q := 117) rfl 0 rfl ?_
  refine j_sipush X (a := 200) (by decide +kernel) dX4_init_117 (q := 120) rfl ?_
  refine j_newa X (N := 200) (t := 0) (ty := .int) (con := (200, .inl (fun _ => iI 0))) rfl rfl (fun C z => by cases z) ar_int (fun _ => rfl) (by decide) (by decide) (by decide) (by decide) dX4_init_120 (q := 122) rfl (fun a19 hb19 hn19 => ?_)
  refine j_w (w' := (wu w19 a19 (eArr ca S0 19))) rfl ?_
  have hc19 : (wu w19 a19 (eArr ca S0 19)) b = some (.inr (4, fsm am19 19)) := by rw [← hz19, wu_n (fun z => by rw [← z, hP19.1.1] at hn19; cases hn19)]; exact hP19.1.1
  refine j_putF X fp_X4_53 rfl rfl hc19 (Nat.le_of_ble_eq_true rfl) rfl rfl hb dX4_init_122 (q := 125) rfl ?_
  have hP19b := hP19.step (by decide) hn19 hb19
  have hFn19 : Fr 1 w (wu (wu w19 a19 (eArr ca S0 19)) (am19 0) (.inr (4, fsm (amS am19 19 a19) 20))) := (hF19.tr (Fr.new hn19)).tr (Fr.set (by rw [hz19]; exact hc19) rfl)
  refine j_w (w' := wu (wu w19 a19 (eArr ca S0 19)) (am19 0) (.inr (4, fsm (amS am19 19 a19) 20))) (by rw [hz19]; rfl) ?_
  have hz20 : amS am19 19 a19 0 = b := hz19
  generalize (wu (wu w19 a19 (eArr ca S0 19)) (am19 0) (.inr (4, fsm (amS am19 19 a19) 20))) = w20 at hP19b hFn19 ⊢
  generalize amS am19 19 a19 = am20 at hP19b hz20
  have hP20 := hP19b
  have hF20 := hFn19
  refine j_aload_n X dX4_init_125 (q := 126) rfl 0 rfl ?_
  refine j_sipush X (a := 200) (by decide +kernel) dX4_init_126 (q := 129) rfl ?_
  refine j_newa X (N := 200) (t := 0) (ty := .int) (con := (200, .inl (fun _ => iI 0))) rfl rfl (fun C z => by cases z) ar_int (fun _ => rfl) (by decide) (by decide) (by decide) (by decide) dX4_init_129 (q := 131) rfl (fun a20 hb20 hn20 => ?_)
  refine j_w (w' := (wu w20 a20 (eArr ca S0 20))) rfl ?_
  have hc20 : (wu w20 a20 (eArr ca S0 20)) b = some (.inr (4, fsm am20 20)) := by rw [← hz20, wu_n (fun z => by rw [← z, hP20.1.1] at hn20; cases hn20)]; exact hP20.1.1
  refine j_putF X fp_X4_56 rfl rfl hc20 (Nat.le_of_ble_eq_true rfl) rfl rfl hb dX4_init_131 (q := 134) rfl ?_
  have hP20b := hP20.step (by decide) hn20 hb20
  have hFn20 : Fr 1 w (wu (wu w20 a20 (eArr ca S0 20)) (am20 0) (.inr (4, fsm (amS am20 20 a20) 21))) := (hF20.tr (Fr.new hn20)).tr (Fr.set (by rw [hz20]; exact hc20) rfl)
  refine j_w (w' := wu (wu w20 a20 (eArr ca S0 20)) (am20 0) (.inr (4, fsm (amS am20 20 a20) 21))) (by rw [hz20]; rfl) ?_
  have hz21 : amS am20 20 a20 0 = b := hz20
  generalize (wu (wu w20 a20 (eArr ca S0 20)) (am20 0) (.inr (4, fsm (amS am20 20 a20) 21))) = w21 at hP20b hFn20 ⊢
  generalize amS am20 20 a20 = am21 at hP20b hz21
  have hP21 := hP20b
  have hF21 := hFn20
  refine j_aload_n X dX4_init_134 (q := 135) rfl 0 rfl ?_
  refine j_sipush X (a := 200) (by decide +kernel) dX4_init_135 (q := 138) rfl ?_
  refine j_newa X (N := 200) (t := 1) (ty := .boolean) (con := (200, .inl (fun _ => iI 0))) rfl rfl (fun C z => by cases z) ar_boolean (fun _ => rfl) (by decide) (by decide) (by decide) (by decide) dX4_init_138 (q := 140) rfl (fun a21 hb21 hn21 => ?_)
  refine j_w (w' := (wu w21 a21 (eArr ca S0 21))) rfl ?_
  have hc21 : (wu w21 a21 (eArr ca S0 21)) b = some (.inr (4, fsm am21 21)) := by rw [← hz21, wu_n (fun z => by rw [← z, hP21.1.1] at hn21; cases hn21)]; exact hP21.1.1
  refine j_putF X fp_X4_59 rfl rfl hc21 (Nat.le_of_ble_eq_true rfl) rfl rfl hb dX4_init_140 (q := 143) rfl ?_
  have hP21b := hP21.step (by decide) hn21 hb21
  have hFn21 : Fr 1 w (wu (wu w21 a21 (eArr ca S0 21)) (am21 0) (.inr (4, fsm (amS am21 21 a21) 22))) := (hF21.tr (Fr.new hn21)).tr (Fr.set (by rw [hz21]; exact hc21) rfl)
  refine j_w (w' := wu (wu w21 a21 (eArr ca S0 21)) (am21 0) (.inr (4, fsm (amS am21 21 a21) 22))) (by rw [hz21]; rfl) ?_
  have hz22 : amS am21 21 a21 0 = b := hz21
  generalize (wu (wu w21 a21 (eArr ca S0 21)) (am21 0) (.inr (4, fsm (amS am21 21 a21) 22))) = w22 at hP21b hFn21 ⊢
  generalize amS am21 21 a21 = am22 at hP21b hz22
  have hP22 := hP21b
  have hF22 := hFn21
  exact j_vret X rfl dX4_init_143 (⟨rfl, ⟨am22, hz22, ⟨hP22.1.1, hP22.1.2⟩, fun f h => hP22.2.1 f h (by omega), fun f g h1 h2 => hP22.2.2 f g h1 h2 (by omega) (by omega)⟩, hF22⟩) (by decide) (by decide)
