section LTAB
variable {p : Program} {l : Launch} {e : Env} {R : Room} {s : State} {m : MethodId} {args : Array Value} {below : List Frame} {meth : Method} {c : Code} {Q : State → Prop} {D : va_G} {ca : Nat → ClassId} {base nL k n pc q : Nat} {lv : List (Nat × Value)} {st : List Value} {w : Wd} {y : MethodName} {cc : ByteArray} {ret : Option FieldType}
theorem j_tin (X : Cx p l s m args meth c y cc nL ret D ca base) {dflt lo hi : Int} {offs : Array Int} {len : Nat} {z off : Int} {tgt : Nat} (hz : -2147483648 ≤ z ∧ z ≤ 2147483647) (d : decode cc pc = .ok (.tableswitch dflt lo hi offs, len)) (h1 : lo ≤ z) (h2 : z ≤ hi) (ho : offs[(z - lo).toNat]? = some off) (ht : (pc : Int) + off = (tgt : Int)) (kk : J p l e R s m args below meth c Q D base nL k n tgt lv st w) : J p l e R s m args below meth c Q D base nL k n pc lv (.int (iI z) :: st) w :=
  fun ls H locs hl hP hS => lv_tableIn X.1 X.2.1 d (by rw [iI_T hz]; omega) (by rw [iI_T hz]; omega) (by rw [iI_T hz]; exact ho) ht (kk ls H locs hl hP hS)
theorem j_tout (X : Cx p l s m args meth c y cc nL ret D ca base) {dflt lo hi : Int} {offs : Array Int} {len : Nat} {z : Int} {tgt : Nat} (hz : -2147483648 ≤ z ∧ z ≤ 2147483647) (d : decode cc pc = .ok (.tableswitch dflt lo hi offs, len)) (h : z < lo ∨ hi < z) (ht : (pc : Int) + dflt = (tgt : Int)) (kk : J p l e R s m args below meth c Q D base nL k n tgt lv st w) : J p l e R s m args below meth c Q D base nL k n pc lv (.int (iI z) :: st) w :=
  fun ls H locs hl hP hS => lv_tableOut X.1 X.2.1 d (by rw [iI_T hz]; exact h) ht (kk ls H locs hl hP hS)
end LTAB
theorem LI.le {base : Nat} {ca : Nat → ClassId} {ax ay o oD : Nat} {c : Int} {k n : Nat} {w : Wd} (h : LI base ca ax ay o oD c k n w) (h1 : c ≤ 511) : LI base ca ax ay o oD (c + 1) k n w := by
  obtain ⟨ni, nc, nm, S, T, ad, am, th, f, g, hS, hC, hM, ho, h2, h3, hk, hn⟩ := h
  exact ⟨ni, nc, nm, S, T, ad, am, th, f, g, hS.le (by omega) (by omega), hC, hM, ho, h2, h3, by omega, by omega⟩
theorem LI.c {base : Nat} {ca : Nat → ClassId} {ax ay o oD : Nat} {c : Int} {k n : Nat} {w : Wd} (h : LI base ca ax ay o oD c k n w) : (0 ≤ c ∧ c ≤ 512) ∧ (k : Int) ≤ 100 + 10 * c ∧ (n : Int) ≤ 4000 + 100 * c := by
  obtain ⟨ni, nc, nm, S, T, ad, am, th, f, g, hS, hC, hM, ho, h2, h3, hk, hn⟩ := h
  exact ⟨hS.2.1.1, hk, hn⟩
section LOOP
variable {p : Program} {l : Launch} {e : Env} {s : State} {m : MethodId} {args : Array Value} {below : List Frame} {meth : Method} {cd : Code} {Q : State → Prop} {D : va_G} {ca : Nat → ClassId} {base : Nat} {mn : String}
set_option maxRecDepth 100000 in
set_option maxHeartbeats 4000000 in
theorem law_loop (X : Cx p l s m args meth cd ⟨RL, mn, ""⟩ code 9 ret D ca base) (hlt : l.stackTraces = false) {b L : Nat} {xs : Nat → Int32} (hX : va_X b L xs s s.heap) (hbl : b < s.heap.size) (hbA : ¬ base ≤ b) (hL : L ≤ 2560) {o oD ax ay : Nat} (hbo : base ≤ o) (hbD : base ≤ oD)
    (hend : ∀ (k n : Nat) (w : Wd) (i : Int), k ≤ 601024 → n ≤ 7293034 → J p l e room_1 s m args below meth cd Q D base 9 k n 1481 [(5, .int (iI (i))), (4, .ref (oD)), (3, .ref (o)), (2, .ref (ay)), (1, .ref (ax)), (0, .ref (b))] [] w) : ∀ (r : Nat) (c : Int) (k n : Nat) (w : Wd), ((L : Int) - 5 * c).toNat = r → 5 * c ≤ L → LI base ca ax ay o oD c k n w → J p l e room_1 s m args below meth cd Q D base 9 k n 28 [(5, .int (iI (5 * c))), (4, .ref (oD)), (3, .ref (o)), (2, .ref (ay)), (1, .ref (ax)), (0, .ref (b))] [] w := by
  intro r
  induction r using Nat.strongRecOn with
  | ind r ih =>
    intro c k n w hr hcl hLI
    obtain ⟨hc, hk, hn⟩ := hLI.c
    refine j_iload X dL_law_28 (q := 30) rfl 0 rfl ?_
    refine j_aload_n X dL_law_30 (q := 31) rfl 5 rfl ?_
    refine j_slen X hX hbl hbA dL_law_31 (q := 32) rfl ?_
    refine j_iconst X (a := 5) dL_law_32 (q := 33) rfl ?_
    refine j_isub X dL_law_33 (q := 34) rfl ?_
    refine j_icmp_gt X (tgt := 1481) dL_law_34 (by decide) (q := 37) rfl (by omega) (by omega) (fun c_34 => ?_) (fun c_34 => ?_)
    · skip
      exact j_lv (hend _ _ _ _ (by omega) (by omega)) [0, 1, 2, 3, 4, 5] rfl
    · skip
      refine j_aload_n X dL_law_37 (q := 38) rfl 5 rfl ?_
      refine j_iload X dL_law_38 (q := 40) rfl 0 rfl ?_
      refine j_sld X hX hbl hbA (by omega) (by omega) dL_law_40 (q := 41) rfl ?_
      refine j_bipush X (a := 31) (by decide +kernel) dL_law_41 (q := 43) rfl ?_
      obtain ⟨z, hz, hzr⟩ := i32 (xs (5 * c).toNat &&& iI 31)
      refine j_iand X (v := iI z) hz dL_law_43 (q := 44) rfl ?_
      have nx : ∀ (k' n' : Nat) (w' : Wd), LI base ca ax ay o oD (c + 1) k' n' w' → J p l e room_1 s m args below meth cd Q D base 9 k' n' 1475 [(5, .int (iI (5 * c))), (4, .ref (oD)), (3, .ref (o)), (2, .ref (ay)), (1, .ref (ax)), (0, .ref (b))] [] w' := by
        intro k' n' w' hLI'
        refine j_iinc X dL_law_1475 0 rfl (by decide) (q := 1478) rfl (lv' := [(5, .int (iI (5 * c + 5))), (4, .ref (oD)), (3, .ref (o)), (2, .ref (ay)), (1, .ref (ax)), (0, .ref (b))]) (by first | rfl | simp [cat_rf, cat_i, cat_l, cat_r]) ?_
        refine j_goto X (tgt := 28) dL_law_1478 (by decide) ?_
        refine j_lc (lv' := [(5, .int (iI (5 * (c + 1)))), (4, .ref (oD)), (3, .ref (o)), (2, .ref (ay)), (1, .ref (ax)), (0, .ref (b))]) (by rw [show 5 * c + 5 = 5 * (c + 1) by omega]) ?_
        exact ih ((L : Int) - 5 * (c + 1)).toNat (by omega) (c + 1) k' n' w' rfl (by omega) hLI'
      by_cases hin : 0 ≤ z ∧ z ≤ 24
      · skip
        rcases (show z = 0 ∨ z = 1 ∨ z = 2 ∨ z = 3 ∨ z = 4 ∨ z = 5 ∨ z = 6 ∨ z = 7 ∨ z = 8 ∨ z = 9 ∨ z = 10 ∨ z = 11 ∨ z = 12 ∨ z = 13 ∨ z = 14 ∨ z = 15 ∨ z = 16 ∨ z = 17 ∨ z = 18 ∨ z = 19 ∨ z = 20 ∨ z = 21 ∨ z = 22 ∨ z = 23 ∨ z = 24 by omega) with rfl | rfl | rfl | rfl | rfl | rfl | rfl | rfl | rfl | rfl | rfl | rfl | rfl | rfl | rfl | rfl | rfl | rfl | rfl | rfl | rfl | rfl | rfl | rfl | rfl
        · exact j_tin X hzr dL_law_44 (by decide) (by decide) (off := 116) rfl (tgt := 160) (by decide) (case_0 X hlt hX hbl hbA hL (i := 5 * c) (c := c) (by omega) (by omega) hbo hbD hLI nx)
        · exact j_tin X hzr dL_law_44 (by decide) (by decide) (off := 208) rfl (tgt := 252) (by decide) (case_1 X hlt hX hbl hbA hL (i := 5 * c) (c := c) (by omega) (by omega) hbo hbD hLI nx)
        · exact j_tin X hzr dL_law_44 (by decide) (by decide) (off := 276) rfl (tgt := 320) (by decide) (case_2 X hlt hX hbl hbA hL (i := 5 * c) (c := c) (by omega) (by omega) hbo hbD hLI nx)
        · exact j_tin X hzr dL_law_44 (by decide) (by decide) (off := 332) rfl (tgt := 376) (by decide) (case_3 X hlt hX hbl hbA hL (i := 5 * c) (c := c) (by omega) (by omega) hbo hbD hLI nx)
        · exact j_tin X hzr dL_law_44 (by decide) (by decide) (off := 345) rfl (tgt := 389) (by decide) (case_4 X hlt hX hbl hbA hL (i := 5 * c) (c := c) (by omega) (by omega) hbo hbD hLI nx)
        · exact j_tin X hzr dL_law_44 (by decide) (by decide) (off := 358) rfl (tgt := 402) (by decide) (case_5 X hlt hX hbl hbA hL (i := 5 * c) (c := c) (by omega) (by omega) hbo hbD hLI nx)
        · exact j_tin X hzr dL_law_44 (by decide) (by decide) (off := 438) rfl (tgt := 482) (by decide) (case_6 X hlt hX hbl hbA hL (i := 5 * c) (c := c) (by omega) (by omega) hbo hbD hLI nx)
        · exact j_tin X hzr dL_law_44 (by decide) (by decide) (off := 494) rfl (tgt := 538) (by decide) (case_7 X hlt hX hbl hbA hL (i := 5 * c) (c := c) (by omega) (by omega) hbo hbD hLI nx)
        · exact j_tin X hzr dL_law_44 (by decide) (by decide) (off := 550) rfl (tgt := 594) (by decide) (case_8 X hlt hX hbl hbA hL (i := 5 * c) (c := c) (by omega) (by omega) hbo hbD hLI nx)
        · exact j_tin X hzr dL_law_44 (by decide) (by decide) (off := 606) rfl (tgt := 650) (by decide) (case_9 X hlt hX hbl hbA hL (i := 5 * c) (c := c) (by omega) (by omega) hbo hbD hLI nx)
        · exact j_tin X hzr dL_law_44 (by decide) (by decide) (off := 669) rfl (tgt := 713) (by decide) (case_10 X hlt hX hbl hbA hL (i := 5 * c) (c := c) (by omega) (by omega) hbo hbD hLI nx)
        · exact j_tin X hzr dL_law_44 (by decide) (by decide) (off := 725) rfl (tgt := 769) (by decide) (case_11 X hlt hX hbl hbA hL (i := 5 * c) (c := c) (by omega) (by omega) hbo hbD hLI nx)
        · exact j_tin X hzr dL_law_44 (by decide) (by decide) (off := 781) rfl (tgt := 825) (by decide) (case_12 X hlt hX hbl hbA hL (i := 5 * c) (c := c) (by omega) (by omega) hbo hbD hLI nx)
        · exact j_tin X hzr dL_law_44 (by decide) (by decide) (off := 837) rfl (tgt := 881) (by decide) (case_13 X hlt hX hbl hbA hL (i := 5 * c) (c := c) (by omega) (by omega) hbo hbD hLI nx)
        · exact j_tin X hzr dL_law_44 (by decide) (by decide) (off := 914) rfl (tgt := 958) (by decide) (case_14 X hlt hX hbl hbA hL (i := 5 * c) (c := c) (by omega) (by omega) hbo hbD hLI nx)
        · exact j_tin X hzr dL_law_44 (by decide) (by decide) (off := 981) rfl (tgt := 1025) (by decide) (case_15 X hlt hX hbl hbA hL (i := 5 * c) (c := c) (by omega) (by omega) hbo hbD hLI nx)
        · exact j_tin X hzr dL_law_44 (by decide) (by decide) (off := 1037) rfl (tgt := 1081) (by decide) (case_16 X hlt hX hbl hbA hL (i := 5 * c) (c := c) (by omega) (by omega) hbo hbD hLI nx)
        · exact j_tin X hzr dL_law_44 (by decide) (by decide) (off := 1093) rfl (tgt := 1137) (by decide) (case_17 X hlt hX hbl hbA hL (i := 5 * c) (c := c) (by omega) (by omega) hbo hbD hLI nx)
        · exact j_tin X hzr dL_law_44 (by decide) (by decide) (off := 1149) rfl (tgt := 1193) (by decide) (case_18 X hlt hX hbl hbA hL (i := 5 * c) (c := c) (by omega) (by omega) hbo hbD hLI nx)
        · exact j_tin X hzr dL_law_44 (by decide) (by decide) (off := 1162) rfl (tgt := 1206) (by decide) (case_19 X hlt hX hbl hbA hL (i := 5 * c) (c := c) (by omega) (by omega) hbo hbD hLI nx)
        · exact j_tin X hzr dL_law_44 (by decide) (by decide) (off := 1225) rfl (tgt := 1269) (by decide) (case_20 X hlt hX hbl hbA hL (i := 5 * c) (c := c) (by omega) (by omega) hbo hbD hLI nx)
        · exact j_tin X hzr dL_law_44 (by decide) (by decide) (off := 1238) rfl (tgt := 1282) (by decide) (case_21 X hlt hX hbl hbA hL (i := 5 * c) (c := c) (by omega) (by omega) hbo hbD hLI nx)
        · exact j_tin X hzr dL_law_44 (by decide) (by decide) (off := 1251) rfl (tgt := 1295) (by decide) (case_22 X hlt hX hbl hbA hL (i := 5 * c) (c := c) (by omega) (by omega) hbo hbD hLI nx)
        · exact j_tin X hzr dL_law_44 (by decide) (by decide) (off := 1307) rfl (tgt := 1351) (by decide) (case_23 X hlt hX hbl hbA hL (i := 5 * c) (c := c) (by omega) (by omega) hbo hbD hLI nx)
        · exact j_tin X hzr dL_law_44 (by decide) (by decide) (off := 1375) rfl (tgt := 1419) (by decide) (case_24 X hlt hX hbl hbA hL (i := 5 * c) (c := c) (by omega) (by omega) hbo hbD hLI nx)
      · skip
        exact j_tout X hzr dL_law_44 (by omega) (tgt := 1475) (by decide) (nx k n w (hLI.le (by omega)))

end LOOP
