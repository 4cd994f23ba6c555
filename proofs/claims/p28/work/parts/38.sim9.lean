/-! ===== the relation is kept by calibrate ===== -/
section SIMC
variable {c n nc nm : Int} {S T : St}
theorem kaS_c {z x lf : Int} : (∀ g j, g ≠ 5 → g ≠ 8 → g ≠ 17 → g ≠ 18 → g ≠ 15 → kaS S nc nm z x lf g j = ka2 S nc nm z x lf g j) ∧ kaS S nc nm z x lf 15 z = nc ∧ (∀ g i, (10 ≤ g ∧ g ≤ 18) → i ≠ z → kaS S nc nm z x lf g i = ka2 S nc nm z x lf g i) ∧ kaS S nc nm z x lf 5 0 = nc + 1 ∧ kaS S nc nm z x lf 8 0 = S 8 0 + 1 ∧ kaS S nc nm z x lf 17 z = spP (kaS S nc nm z x lf) 513 0 nc ∧ kaS S nc nm z x lf 18 z = spQ (kaS S nc nm z x lf) 513 0 nc := by
  obtain ⟨K, hK⟩ : ∃ K, K = ka2 S nc nm z x lf := ⟨_, rfl⟩
  obtain ⟨W, hW⟩ : ∃ W, W = up K 15 z nc := ⟨_, rfl⟩
  have e : kaS S nc nm z x lf = up (up (spS W z) 5 0 (nc + 1)) 8 0 (S 8 0 + 1) := by rw [kaS, ka3, ← hK, ← hW]
  have w15 : W 15 z = nc := by rw [hW, up_s]
  rw [← hK, e]
  have o : ∀ g j, g ≠ 5 → g ≠ 8 → g ≠ 17 → g ≠ 18 → up (up (spS W z) 5 0 (nc + 1)) 8 0 (S 8 0 + 1) g j = W g j := fun g j a b d f => by rw [up_f b, up_f a, spS, up_f f, up_f d]
  have hp : ∀ a, pts (up (up (spS W z) 5 0 (nc + 1)) 8 0 (S 8 0 + 1)) 513 a = pts W 513 a := fun a => pts_ext (fun j => ⟨o 23 j (by decide) (by decide) (by decide) (by decide), o 28 j (by decide) (by decide) (by decide) (by decide), o 29 j (by decide) (by decide) (by decide) (by decide)⟩) 513 a
  have hs := sp_of (hp nc)
  refine ⟨fun g j a b d f h => ?_, ?_, fun g i a hi => ?_, ?_, ?_, ?_, ?_⟩
  · rw [o g j a b d f, hW, up_f h]
  · rw [o 15 z (by decide) (by decide) (by decide) (by decide), w15]
  · rw [up_f (by omega), up_f (by omega), spS]
    have aux : ∀ (U : St) (f : Nat) (v : Int), up U f z v g i = U g i := fun U f v => up_i hi
    rw [aux, aux, hW, aux]
  · rw [up_f (by decide), up_s]
  · rw [up_s]
  · rw [hs.1, up_f (by decide), up_f (by decide), spS, up_f (by decide), up_s, w15]
  · rw [hs.2, up_f (by decide), up_f (by decide), spS, up_s, w15]
theorem kmS_c {b : Nat} {z x lf : Int} : (∀ g j, g ≠ 3 → g ≠ 8 → g ≠ 9 → g ≠ 10 → g ≠ 11 → g ≠ 12 → g ≠ 13 → kmS T b n nm z x lf g j = km4 T b n nm z x g j) ∧ (∀ g i, g ≠ 3 → i ≠ z → kmS T b n nm z x lf g i = km4 T b n nm z x g i) ∧ kmS T b n nm z x lf 3 0 = T 3 0 + 1 ∧ kmS T b n nm z x lf 8 z = T 3 0 + 1 ∧ kmS T b n nm z x lf 9 z = T 4 z ∧ kmS T b n nm z x lf 10 z = T 1 0 ∧ kmS T b n nm z x lf 11 z = T 1 0 + km4 T b n nm z x 7 z ∧ kmS T b n nm z x lf 12 z = lf ∧ kmS T b n nm z x lf 13 z = 0 := by
  refine ⟨fun g j a1 a2 a3 a4 a5 a6 a7 => ?_, fun g i a hi => ?_, ?_, ?_, ?_, ?_, ?_, ?_, ?_⟩
  · rw [kmS, up_f a7, up_f a6, up_f a5, up_f a4, up_f a3, up_f a2, up_f a1]
  · have aux : ∀ (U : St) (f : Nat) (v : Int), up U f z v g i = U g i := fun U f v => up_i hi
    rw [kmS, aux, aux, aux, aux, aux, aux, up_f a]
  · rw [kmS, up_f (by decide), up_f (by decide), up_f (by decide), up_f (by decide), up_f (by decide), up_f (by decide), up_s]
  · rw [kmS, up_f (by decide), up_f (by decide), up_f (by decide), up_f (by decide), up_f (by decide), up_s]
  · rw [kmS, up_f (by decide), up_f (by decide), up_f (by decide), up_f (by decide), up_s]
  · rw [kmS, up_f (by decide), up_f (by decide), up_f (by decide), up_s]
  · rw [kmS, up_f (by decide), up_f (by decide), up_s]
  · rw [kmS, up_f (by decide), up_s]
  · rw [kmS, up_s]
theorem Sim.calibrate (h : Sim c n nc nm S T) (hc : c ≤ 511) {z x lf : Int} (hz : 0 ≤ z ∧ z < n) (hx : -99999 ≤ x ∧ x ≤ 99999) (hlf : -99999 ≤ lf ∧ lf ≤ 99999) (hfo : Jvm.Pilot.CCalibratoryLaw_law_r5981_98d5a5.fof (S 14) (Jvm.Pilot.CCalibratoryLaw_law_r5981_98d5a5.inF S) 12 (S 14 z) = -1) {b : Nat} (hB : 0 < T 8 z → ∀ u, 0 ≤ u → u < n → (hs b u = 1 ↔ ∃ f, rcF T z f u = 1)) :
    Sim (c + 1) n (nc + 1) nm (kaS S nc nm z x lf) (kmS T b n nm z x lf) ∧ kaR S nc nm z x lf = kmR T b nm z x := by
  have hcal := h.cal hz.1 hz.2
  have hstake := fun hF hB => h.stake (b := b) hz.1 hz.2 hF hB
  have hMI := h.MI hc
  have hdec := fun j a b => h.dec (j := j) a b
  obtain ⟨hI, ⟨h3, h4, h5, h6, h7⟩, ⟨t1, t2, t3, t4, t5, t6⟩, ow, hO⟩ := h
  have hKins := fun hF => K_ins hI (by omega) hO hz hF
  have hKmea := fun hF k hk hB => K_mea hI (by omega) hO hz hF (b := b) hB (k := k) hk
  obtain ⟨hi, hk, hmo, hm, hf, hf2⟩ := hO
  obtain ⟨hn, hnc, hnm, e3, e4, e5, -, e7, e8⟩ := hI.top
  obtain ⟨i10, i11, i12, i13, i14, i15, i16, i17, i18⟩ := hI.ins hz.1 hz.2
  have hiz := hi z hz.1 hz.2
  have hlz := hiz.len
  obtain ⟨⟨q4, q5, q6, q7, q14⟩, qn, qo, qp, -, -, -⟩ := id hiz
  -- what the two have in common
  have hfl : flT T z x ↔ fl S z x := by
    unfold flT fl
    rw [hcal, q5]
  have hdy : dyT T z ↔ dy S z := by
    unfold dyT dy
    rw [hcal, t2]
    by_cases cF : 0 ≤ S 15 z
    · rw [(qo cF).2.2.2.2.1]
    · exact ⟨fun q => absurd q.1 cF, fun q => absurd q.1 cF⟩
  have habs : 0 ≤ iabs x ∧ iabs x ≤ 99999 := by unfold iabs; split <;> omega
  have hself : S 14 z ≠ z := ends_ne (hI.2.2.2.2 z hz.1 hz.2) hz.1
  -- the calibration of the reference
  have hbas : (S 14 z = -1 → bas S z = -1) ∧ (S 14 z ≠ -1 → (0 ≤ bas S z ∧ bas S z < nc) ∧ bas S z = S 15 (S 14 z) ∧ ow (bas S z) = S 14 z ∧ S 27 (bas S z) = 1000000 ∧ bas S z ≠ S 15 z) := by
    constructor
    · intro e
      rw [bas, if_pos (by omega)]
    · intro e
      have hr0 : 0 ≤ S 14 z ∧ S 14 z < n := by omega
      have e1 : bas S z = S 15 (S 14 z) := by rw [bas, if_neg (by omega)]
      have hF : Jvm.Pilot.CCalibratoryLaw_law_r5981_98d5a5.inF S (S 14 z) ≠ 0 := fun q => by
        rw [fof_e hr0.1 q] at hfo
        exact e hfo
      have hF2 : 0 ≤ S 15 (S 14 z) := (tf_1 hF).1
      have hl := (hI.ins hr0.1 hr0.2).2.2.2.2.2.1.2
      obtain ⟨-, -, -, -, -, -, -, -, o1, o2⟩ := (hi (S 14 z) hr0.1 hr0.2).2.2.1 hF2
      refine ⟨by omega, e1, by rw [e1]; exact o1, by rw [e1]; exact o2, fun q => ?_⟩
      have hz0 : 0 ≤ S 15 z := by omega
      have := (qo hz0).2.2.2.2.2.2.2.2.1
      rw [← q, e1, o1] at this
      exact hself this
  -- the columns
  obtain ⟨sO, s15, sI, s5, s8, s17, s18⟩ := kaS_c (S := S) (nc := nc) (nm := nm) (z := z) (x := x) (lf := lf)
  obtain ⟨ka, kb, k13, k13o, k16, k16o, ke, k27, k27o, ⟨n20, n21, n22, n23, n24, n25, n26, n27, n28, n29⟩, k26, k32, k6, kR⟩ := KA_all (nm := nm) (nc := nc) (x := x) (lf := lf) hI hz
  obtain ⟨tO, tI, w3, w8, w9, w10, w11, w12, w13⟩ := kmS_c (T := T) (n := n) (nm := nm) (b := b) (z := z) (x := x) (lf := lf)
  obtain ⟨ma, m7, m7o, m13, m14, m14o, ⟨m15, mp⟩, mpo, m21⟩ := KM_all (n := n) (nm := nm) (b := b) (z := z) (x := x) hlz
  obtain ⟨S', hS'⟩ : ∃ S', S' = kaS S nc nm z x lf := ⟨_, rfl⟩
  obtain ⟨T', hT'⟩ : ∃ T', T' = kmS T b n nm z x lf := ⟨_, rfl⟩
  obtain ⟨K, hK⟩ : ∃ K, K = ka2 S nc nm z x lf := ⟨_, rfl⟩
  obtain ⟨M, hM⟩ : ∃ M, M = km4 T b n nm z x := ⟨_, rfl⟩
  rw [← hS', ← hK] at sO sI
  rw [← hS'] at s15 s5 s8 s17 s18
  rw [← hK] at ka kb k13 k13o k16 k16o ke k27 k27o n20 n21 n22 n23 n24 n25 n26 n27 n28 n29 k26 k32 k6
  rw [← hT', ← hM] at tO tI w11
  rw [← hT'] at w3 w8 w9 w10 w12 w13
  rw [← hM] at ma m7 m7o m13 m14 m14o m15 mp mpo m21
  rw [← hS', ← hT']
  -- plain columns of S'
  have p0 : ∀ g, g < 10 → g ≠ 5 → g ≠ 6 → g ≠ 8 → S' g 0 = S g 0 := fun g a b1 b2 b3 => by rw [sO g 0 b1 b3 (by omega) (by omega) (by omega), ka g 0 a b2]
  have pI : ∀ g i, 10 ≤ g → g ≤ 18 → i ≠ z → S' g i = S g i := fun g i a b1 hiz => by
    rw [sI g i ⟨a, b1⟩ hiz]
    by_cases g13 : g = 13
    · rw [g13]; exact k13o i hiz
    · by_cases g16 : g = 16
      · rw [g16]; exact k16o i hiz
      · exact kb g i (Or.inl ⟨a, b1, g13, g16⟩)
  have pZ : ∀ g, g = 10 ∨ g = 11 ∨ g = 12 ∨ g = 14 → S' g z = S g z := fun g hg => by rw [sO g z (by omega) (by omega) (by omega) (by omega) (by omega), kb g z (Or.inl (by omega))]
  have pK : ∀ g j, 20 ≤ g → g ≤ 29 → j ≠ nc → g ≠ 26 → g ≠ 27 → S' g j = S g j := fun g j a b1 b2 b3 b4 => by rw [sO g j (by omega) (by omega) (by omega) (by omega) (by omega), ke g j a b1 b2 b3 b4]
  have pN : ∀ g, 20 ≤ g → g ≤ 29 → S' g nc = K g nc := fun g a b1 => sO g nc (by omega) (by omega) (by omega) (by omega) (by omega)
  have p27 : ∀ j, j ≠ nc → j ≠ S 15 z → S' 27 j = S 27 j := fun j a b1 => by rw [sO 27 j (by decide) (by decide) (by decide) (by decide) (by decide), k27o j a b1]
  have p27F : 0 ≤ S 15 z → S' 27 (S 15 z) = S 8 0 := fun a => by rw [sO 27 _ (by decide) (by decide) (by decide) (by decide) (by decide), k27 a]
  have p30 : ∀ g k, g = 30 ∨ g = 31 → S' g k = S g k := fun g k hg => by rw [sO g k (by omega) (by omega) (by omega) (by omega) (by omega), kb g k (Or.inr hg)]
  have p13 : S' 13 z = if 0 ≤ S 15 z then niv (S 11 z) (iabs x) (S 13 z) else S 13 z := by rw [sO 13 z (by decide) (by decide) (by decide) (by decide) (by decide), k13]
  have p16 : S' 16 z = if fl S z x then S 16 z + 1 else S 16 z := by rw [sO 16 z (by decide) (by decide) (by decide) (by decide) (by decide), k16]
  have p32 : ∀ k, S' 32 k = if fl S z x ∧ 0 ≤ k ∧ k < nm ∧ stk S (S 15 z) k = 1 then 1 else S 32 k := fun k => by rw [sO 32 k (by decide) (by decide) (by decide) (by decide) (by decide), k32]
  have p26 : ∀ j, j ≠ nc → (fl S z x ∧ met n S (S 15 z) j → S' 26 j = 1) ∧ (¬ (fl S z x ∧ met n S (S 15 z) j) → S' 26 j = S 26 j) := fun j a => by rw [sO 26 j (by decide) (by decide) (by decide) (by decide) (by decide)]; exact k26 j a
  have p6 : S' 6 0 = if fl S z x then S 6 0 + sm (stk S (S 15 z)) nm.toNat else S 6 0 := by rw [sO 6 0 (by decide) (by decide) (by decide) (by decide) (by decide), k6]
  have hniv := niv_b (t := S 11 z) (s := iabs x) (v := S 13 z) i13
  -- points of the new calibration
  have hdec2 : ∀ j, 0 ≤ j → j < nc + 1 → S' 23 j < j := fun j a b1 => by
    by_cases e : j = nc
    · rw [e, pN 23 (by decide) (by decide), n23]; omega
    · rw [pK 23 j (by decide) (by decide) e (by decide) (by decide)]; exact (hdec j a (by omega)).1
  have hptF : pts S' 512 (S 15 z) = pts S 513 (S 15 z) := by
    rw [pts_loc (S := S) (nc := nc) (fun j a b1 => ⟨(hdec j a b1).1, pK 23 j (by decide) (by decide) (by omega) (by decide) (by decide), pK 28 j (by decide) (by decide) (by omega) (by decide) (by decide), pK 29 j (by decide) (by decide) (by omega) (by decide) (by decide)⟩) 512 (S 15 z) i15.2]
    exact pts_fuel (nc := nc) (fun j a b1 => (hdec j a b1).1) 512 513 (S 15 z) i15.2 (by omega) (by omega)
  have hpt : (pts S' 513 nc).take 8 = if dy S z then ((S 7 0 - S 21 (S 15 z), x - S 22 (S 15 z)) :: (pts S 513 (S 15 z)).take 8).take 8 else (pts S 513 (S 15 z)).take 8 := by
    rw [pts, if_neg (by omega), pN 28 (by decide) (by decide), pN 29 (by decide) (by decide), pN 23 (by decide) (by decide), n28, n29, n23, hptF]
    by_cases cd : dy S z
    · have := cd.2
      rw [if_pos cd, if_pos cd, if_pos cd, if_neg (by omega), List.take_succ_cons, List.take_succ_cons, List.take_take]
      rfl
    · rw [if_neg cd, if_neg cd, if_pos (Int.le_refl _), if_neg cd]
  have hIC : IC n (nc + 1) nm S' := by
    refine ⟨⟨hn, by omega, hnm, ?_, ?_, ?_, trivial, ?_, ?_⟩, fun i a b1 => ?_, fun j a b1 => ?_, fun k a b1 => ?_, fun i a b1 => ?_⟩
    · rw [p0 3 (by decide) (by decide) (by decide) (by decide)]; exact e3
    · rw [p0 4 (by decide) (by decide) (by decide) (by decide)]; exact e4
    · rw [s5]; omega
    · rw [p0 7 (by decide) (by decide) (by decide) (by decide)]; exact e7
    · rw [s8]; omega
    · by_cases e : i = z
      · subst e
        have hb := sp_b (S := S') (nc := nc + 1) (fun j a b1 => by
          refine ⟨hdec2 j a b1, ?_⟩
          by_cases ej : j = nc
          · rw [ej, pN 28 (by decide) (by decide), pN 29 (by decide) (by decide), n28, n29]
            by_cases cd : dy S i
            · obtain ⟨r0, r1, r2, -⟩ := hI.kal cd.1 i15.2
              rw [if_pos cd, if_pos cd]; omega
            · rw [if_neg cd, if_neg cd]; omega
          · obtain ⟨r0, r1, r2, r3, r4, r5, r6, r7, r8, r9⟩ := hI.kal a (show j < nc by omega)
            rw [pK 28 j (by decide) (by decide) ej (by decide) (by decide), pK 29 j (by decide) (by decide) ej (by decide) (by decide)]
            exact ⟨r8.2, r9⟩) (a := nc) (by omega)
        have h7i := h7 i a b1
        unfold RI
        rw [pZ 10 (by decide), pZ 11 (by decide), pZ 12 (by decide), pZ 14 (by decide), s15, s17, s18, p13, p16]
        refine ⟨i10, i11, i12, ?_, i14, by omega, ?_, hb.1, hb.2⟩
        · split
          · exact hniv
          · exact i13
        · split <;> omega
      · obtain ⟨g0, g1, g2, g3, g4, g5, g6, g7, g8⟩ := hI.ins a b1
        unfold RI
        rw [pI 10 i (by decide) (by decide) e, pI 11 i (by decide) (by decide) e, pI 12 i (by decide) (by decide) e, pI 13 i (by decide) (by decide) e, pI 14 i (by decide) (by decide) e, pI 15 i (by decide) (by decide) e, pI 16 i (by decide) (by decide) e, pI 17 i (by decide) (by decide) e, pI 18 i (by decide) (by decide) e]
        exact ⟨g0, g1, g2, g3, g4, by omega, g6, g7, g8⟩
    · by_cases e : j = nc
      · subst e
        unfold RK
        rw [pN 20 (by decide) (by decide), pN 21 (by decide) (by decide), pN 22 (by decide) (by decide), pN 23 (by decide) (by decide), pN 24 (by decide) (by decide), pN 25 (by decide) (by decide), pN 26 (by decide) (by decide), pN 27 (by decide) (by decide), pN 28 (by decide) (by decide), pN 29 (by decide) (by decide), n20, n21, n22, n23, n24, n25, n26, n27, n28, n29]
        have hbb : -1 ≤ bas S z ∧ bas S z < j := by
          by_cases e14 : S 14 z = -1
          · rw [hbas.1 e14]; omega
          · have := (hbas.2 e14).1; omega
        refine ⟨e8, e7, hlf, i15, hbb, ?_, by decide, by decide, ?_, ?_⟩
        · split <;> decide
        · by_cases cd : dy S z
          · obtain ⟨r0, r1, r2, -⟩ := hI.kal cd.1 i15.2
            have := cd.2
            rw [if_pos cd]; omega
          · rw [if_neg cd]; decide
        · by_cases cd : dy S z
          · obtain ⟨r0, r1, r2, -⟩ := hI.kal cd.1 i15.2
            rw [if_pos cd]; omega
          · rw [if_neg cd]; decide
      · obtain ⟨r0, r1, r2, r3, r4, r5, r6, r7, r8, r9⟩ := hI.kal a (show j < nc by omega)
        unfold RK
        rw [pK 20 j (by decide) (by decide) e (by decide) (by decide), pK 21 j (by decide) (by decide) e (by decide) (by decide), pK 22 j (by decide) (by decide) e (by decide) (by decide), pK 23 j (by decide) (by decide) e (by decide) (by decide), pK 24 j (by decide) (by decide) e (by decide) (by decide), pK 25 j (by decide) (by decide) e (by decide) (by decide), pK 28 j (by decide) (by decide) e (by decide) (by decide), pK 29 j (by decide) (by decide) e (by decide) (by decide)]
        refine ⟨r0, r1, r2, r3, r4, r5, ?_, ?_, r8, r9⟩
        · by_cases cm : fl S z x ∧ met n S (S 15 z) j
          · rw [(p26 j e).1 cm]; decide
          · rw [(p26 j e).2 cm]; exact r6
        · by_cases ej : j = S 15 z
          · rw [ej, p27F (by omega)]; omega
          · rw [p27 j e ej]; exact r7
    · obtain ⟨r0, r1, r2⟩ := hI.mea a b1
      unfold RM
      rw [p30 30 k (Or.inl rfl), p30 31 k (Or.inr rfl), p32]
      refine ⟨r0, by omega, ?_⟩
      split
      · decide
      · exact r2
    · have e : S' 14 = S 14 := by
        funext j
        by_cases ej : j = z
        · rw [ej]; exact pZ 14 (by decide)
        · exact pI 14 j (by decide) (by decide) ej
      rw [e]
      exact hI.2.2.2.2 i a b1
  have hstk01 := fun k => stk_b S (S 15 z) k
  have h32 : ∀ k, 0 ≤ k → k < nm → fl S z x → S' 32 k = S 32 k + stk S (S 15 z) k := fun k a b1 cf => by
    rw [p32]
    have := hstk01 k
    by_cases e : stk S (S 15 z) k = 1
    · rw [if_pos ⟨cf, a, b1, e⟩, e]
      have : S 32 k = 0 := Classical.byContradiction fun q => by rw [stk, if_neg q] at e; cases e
      omega
    · rw [if_neg (fun q => e q.2.2.2)]; omega
  have hfree : ∀ j, 0 ≤ j → j < nc → ∀ i, i < nc → 0 ≤ i → (S' 27 j < S 20 i ↔ S 27 j < S 20 i) := fun j a b1 i i1 i0 => by
    have hm20 := (hk i i0 i1).2.2.2.2.1
    by_cases ej : j = S 15 z
    · rw [ej, p27F (by omega), (qo (by omega)).2.2.2.2.2.2.2.2.2]; omega
    · rw [p27 j (by omega) ej]
  obtain ⟨ow', on', oo'⟩ : ∃ ow' : Int → Int, ow' nc = z ∧ ∀ j, j ≠ nc → ow' j = ow j := ⟨fun j => if j = nc then z else ow j, if_pos rfl, fun j h => if_neg h⟩
  refine ⟨⟨hIC, ⟨by omega, ?_, ?_, by omega, fun i a b1 => ?_⟩, ⟨s5, ?_, ?_, ?_, ?_, ?_⟩, ow', fun i a b1 => ?_, fun j a b1 => ?_, fun i j a b1 e => ?_, fun k a b1 => ?_, fun i g a b1 p q => ?_, fun k a => ?_⟩, ?_⟩
  · rw [p0 7 (by decide) (by decide) (by decide) (by decide)]; omega
  · rw [s8]; omega
  · have := h7 i a b1
    by_cases e : i = z
    · subst e
      rw [p16]; split <;> omega
    · rw [pI 16 i (by decide) (by decide) e]; omega
  · rw [tO 1 0 (by decide) (by decide) (by decide) (by decide) (by decide) (by decide) (by decide), ma 1 0 (by decide) (by decide) (by decide) (by decide) (by decide) (by decide) (by decide), p0 7 (by decide) (by decide) (by decide) (by decide), t2]
  · rw [tO 2 0 (by decide) (by decide) (by decide) (by decide) (by decide) (by decide) (by decide), ma 2 0 (by decide) (by decide) (by decide) (by decide) (by decide) (by decide) (by decide), t3]
  · rw [w3, s8, t4]
  · rw [tO 18 0 (by decide) (by decide) (by decide) (by decide) (by decide) (by decide) (by decide), ma 18 0 (by decide) (by decide) (by decide) (by decide) (by decide) (by decide) (by decide), t5]
  · rw [p6, t6]
    by_cases cf : fl S z x
    · rw [if_pos cf]
      exact (sm_add fun i a b1 => h32 i a (by omega) cf).symm
    · rw [if_neg cf]
      exact sm_cong fun i a b1 => (by rw [p32, if_neg (fun q => cf q.1)])
  · -- the instruments
    by_cases e : i = z
    · subst e
      unfold SI1
      rw [s15]
      refine ⟨⟨?_, ?_, ?_, ?_, ?_⟩, fun q => absurd q (by omega), fun _ => ⟨?_, ?_, ?_, ?_, ?_, ?_, ?_, ?_, ?_, ?_⟩, ?_, ?_, s17, s18⟩
      · rw [tO 4 i (by decide) (by decide) (by decide) (by decide) (by decide) (by decide) (by decide), ma 4 i (by decide) (by decide) (by decide) (by decide) (by decide) (by decide) (by decide), pZ 14 (by decide), q4]
      · rw [tO 5 i (by decide) (by decide) (by decide) (by decide) (by decide) (by decide) (by decide), ma 5 i (by decide) (by decide) (by decide) (by decide) (by decide) (by decide) (by decide), pZ 11 (by decide), q5]
      · rw [tO 6 i (by decide) (by decide) (by decide) (by decide) (by decide) (by decide) (by decide), ma 6 i (by decide) (by decide) (by decide) (by decide) (by decide) (by decide) (by decide), pZ 12 (by decide), q6]
      · rw [tO 7 i (by decide) (by decide) (by decide) (by decide) (by decide) (by decide) (by decide), m7, p13, q5, q7]
        by_cases cF : 0 ≤ S 15 i
        · rw [if_pos cF, if_pos (hcal.mpr cF)]
        · rw [if_neg cF, if_neg (fun q => cF (hcal.mp q))]
      · rw [tO 14 i (by decide) (by decide) (by decide) (by decide) (by decide) (by decide) (by decide), m14, p16, q14]
        by_cases cf : fl S i x
        · rw [if_pos cf, if_pos (hfl.mpr cf)]
        · rw [if_neg cf, if_neg (fun q => cf (hfl.mp q))]
      · rw [w8, pN 20 (by decide) (by decide), n20, t4]
      · rw [w9, q4]; exact i14
      · intro q
        rw [w9, q4] at q
        rw [pN 24 (by decide) (by decide), n24, hbas.1 q]
        decide
      · intro q
        rw [w9, q4] at q
        obtain ⟨b1', b2', b3', -⟩ := hbas.2 q
        rw [pN 24 (by decide) (by decide), n24, w9, q4, oo' _ (by omega)]
        exact ⟨b1'.1, b3'⟩
      · rw [w10, pN 21 (by decide) (by decide), n21, t2]
      · rw [w11, pN 21 (by decide) (by decide), n21, t2, m7, p13, q5, q7]
        by_cases cF : 0 ≤ S 15 i
        · rw [if_pos cF, if_pos (hcal.mpr cF)]
        · rw [if_neg cF, if_neg (fun q => cF (hcal.mp q))]
      · rw [w12, pN 22 (by decide) (by decide), n22]
      · rw [w13, pN 26 (by decide) (by decide), n26]
      · exact on'
      · rw [pN 27 (by decide) (by decide), n27]
      · have e15 : T' 15 i = M 15 i := tO 15 i (by decide) (by decide) (by decide) (by decide) (by decide) (by decide) (by decide)
        have emp : mplf (mpF T' i) (T' 15 i).toNat = mplf (mpF M i) (M 15 i).toNat := by
          rw [e15]
          refine mplf_cong fun j _ _ => ?_
          unfold mpF
          rw [tO 16 _ (by decide) (by decide) (by decide) (by decide) (by decide) (by decide) (by decide), tO 17 _ (by decide) (by decide) (by decide) (by decide) (by decide) (by decide) (by decide)]
        rw [emp, mp, hpt, qp]
        by_cases cd : dy S i
        · obtain ⟨-, -, -, -, x10, -, x12, -⟩ := qo cd.1
          rw [if_pos cd, if_pos (hdy.mpr cd), t2, x10, x12]
        · rw [if_neg cd, if_neg (fun q => cd (hdy.mp q))]
      · rw [tO 15 i (by decide) (by decide) (by decide) (by decide) (by decide) (by decide) (by decide)]
        exact m15.1
    · have r5 := (hI.ins a b1).2.2.2.2.2.1
      have g := hi i a b1
      obtain ⟨-, gn, go, -⟩ := id g
      -- whether it rests on what failed
      have hreach : ∀ _ : fl S z x, ∀ _ : 0 ≤ S 15 i, (met n S (S 15 z) (S 15 i) ↔ hs b i = 1) := fun cf ci => by
        obtain ⟨-, -, -, -, -, -, -, -, io, i27⟩ := go ci
        obtain ⟨-, -, -, -, -, -, -, -, zo, -⟩ := qo cf.1
        have hne : S 15 i ≠ S 15 z := fun q => e (by rw [← io, q, zo])
        have hd24 := (hdec (S 15 i) ci r5.2).2
        rw [hB (hcal.mpr cf.1) i a b1, ← hKins cf.1 _ i a b1 ci rfl, rst_s (k := 512) ci hne (by omega), rst_fuel (nc := nc) (fun j x0 x1 => (hdec j x0 x1).2) 512 513 (S 24 (S 15 i)) (by omega) (by omega) (by omega)]
        constructor
        · rintro ⟨u, -, -, -, p5⟩; exact p5
        · exact fun q => ⟨i, ⟨a, b1⟩, rfl, ci, q⟩
      refine g.of (Int.le_refl n) (fun g x0 x1 _ => pI g i x0 x1 e) (fun g j x0 x1 hg => pK g j (by omega) (by omega) (by omega) (by omega) (by omega)) (fun ci => p27 _ (by omega) (fun q => ?_)) (fun ci => ?_) (fun ci => ?_) ?_ (fun g x0 x1 x2 => ?_) (fun j x0 x1 => ?_) (fun j x0 x1 => oo' j (by omega)) (fun j x0 x1 => hdec j x0 (by omega))
      · have io := (go ci).2.2.2.2.2.2.2.2.1
        have zo := (qo (by omega)).2.2.2.2.2.2.2.2.1
        exact e (by rw [← io, q, zo])
      · have i13' := (go ci).2.2.2.2.2.2.2.1
        have h26 := (hI.kal ci r5.2).2.2.2.2.2.2.1
        rw [tI 13 i (by decide) e, m13]
        by_cases cf : fl S z x
        · rw [if_pos ⟨hfl.mpr cf, a, b1⟩, i13']
          have hr := hreach cf ci
          by_cases cm : met n S (S 15 z) (S 15 i)
          · rw [(p26 _ (by omega)).1 ⟨cf, cm⟩, tf_t (Or.inr ⟨hr.mp cm, e⟩)]
          · rw [(p26 _ (by omega)).2 (fun q => cm q.2)]
            by_cases c26 : S 26 (S 15 i) = 0
            · rw [tf_f (fun q => q.elim (fun q => q c26) (fun q => cm (hr.mpr q.1))), c26]
            · rw [tf_t (Or.inl c26)]; omega
        · rw [if_neg (fun q => cf (hfl.mp q.1)), i13', (p26 _ (by omega)).2 (fun q => cf q.1)]
      · obtain ⟨x8, -, -, -, -, x13⟩ := gn ci
        rw [tI 13 i (by decide) e, m13]
        by_cases cf : fl S z x
        · rw [if_pos ⟨hfl.mpr cf, a, b1⟩]
          refine tf_f fun q => q.elim (fun q => q x13) (fun q => ?_)
          exact rcF_n e (fun w => by have := w.1; omega) ((hB (hcal.mpr cf.1) i a b1).mp q.1)
        · rw [if_neg (fun q => cf (hfl.mp q.1)), x13]
      · rw [tI 4 i (by decide) e, ma 4 i (by decide) (by decide) (by decide) (by decide) (by decide) (by decide) (by decide), pI 14 i (by decide) (by decide) e]
        exact g.1.1
      · rw [tI g i (by omega) e]
        by_cases g7 : g = 7
        · rw [g7]; exact m7o i e
        · by_cases g14 : g = 14
          · rw [g14]; exact m14o i e
          · by_cases g15 : g = 15
            · rw [g15]; exact (mpo i e).1
            · exact ma g i g7 x2 g14 g15 (by omega) (by omega) (by omega)
      · rw [tO 16 _ (by decide) (by decide) (by decide) (by decide) (by decide) (by decide) (by decide), tO 17 _ (by decide) (by decide) (by decide) (by decide) (by decide) (by decide) (by decide)]
        exact (mpo i e).2 j x0 x1
  · -- the calibrations
    by_cases e : j = nc
    · subst e
      unfold SK1
      rw [on', s15, pN 24 (by decide) (by decide), n24, pN 20 (by decide) (by decide), n20, pN 21 (by decide) (by decide), n21, s8, p0 7 (by decide) (by decide) (by decide) (by decide)]
      refine ⟨hz, Int.le_refl _, fun q => absurd rfl q, fun q => ?_, by omega, Int.le_refl _⟩
      have e14 : S 14 z ≠ -1 := fun w => by rw [hbas.1 w] at q; omega
      obtain ⟨b1', b2', b3', b4', b5'⟩ := hbas.2 e14
      rw [p27 _ (by omega) b5', b4']
      omega
    · have b1' : j < nc := by omega
      obtain ⟨g1, g2, g3, g4, g5, g6⟩ := hk j a b1'
      have hd24 := (hdec j a b1').2
      unfold SK1
      rw [oo' j e, pK 24 j (by decide) (by decide) e (by decide) (by decide), pK 20 j (by decide) (by decide) e (by decide) (by decide), pK 21 j (by decide) (by decide) e (by decide) (by decide), s8, p0 7 (by decide) (by decide) (by decide) (by decide)]
      refine ⟨g1, ?_, fun q => ?_, fun q => ?_, by omega, g6⟩
      · by_cases eo : ow j = z
        · rw [eo, s15]; omega
        · rw [pI 15 _ (by decide) (by decide) eo]; exact g2
      · by_cases eo : ow j = z
        · rw [eo, s15, pN 20 (by decide) (by decide), n20]
          rw [eo] at g2 g3
          by_cases ej : j = S 15 z
          · rw [ej, p27F (by omega)]; exact Int.le_refl _
          · rw [p27 j e ej]
            have := g3 ej
            have := (hk (S 15 z) (by omega) i15.2).2.2.2.2.1
            omega
        · have hl := (hI.ins g1.1 g1.2).2.2.2.2.2.1.2
          rw [pI 15 _ (by decide) (by decide) eo] at q ⊢
          have ej : j ≠ S 15 z := fun w => eo (by rw [w]; exact (qo (by omega)).2.2.2.2.2.2.2.2.1)
          rw [p27 j e ej, pK 20 _ (by decide) (by decide) (by omega) (by decide) (by decide)]
          exact g3 q
      · by_cases ej : S 24 j = S 15 z
        · rw [ej, p27F (by omega)]; exact g5
        · rw [p27 _ (by omega) ej]; exact g4 q
  · by_cases ej : j = nc
    · rw [ej, pN 20 (by decide) (by decide), n20, pK 20 i (by decide) (by decide) (by omega) (by decide) (by decide)]
      exact (hk i a (by omega)).2.2.2.2.1
    · rw [pK 20 i (by decide) (by decide) (by omega) (by decide) (by decide), pK 20 j (by decide) (by decide) ej (by decide) (by decide)]
      exact hmo i j a b1 (by omega)
  · -- the measurements
    obtain ⟨x19, x20, x21, y1, y2, y3, y4⟩ := hm k a b1
    obtain ⟨r30, r31, r32⟩ := hI.mea a b1
    have hnc31 : S 31 k ≠ nc := by omega
    have h27 : S 30 k < S' 27 (S 31 k) := by
      by_cases ej : S 31 k = S 15 z
      · rw [ej, p27F (by omega)]; exact y3
      · rw [p27 _ hnc31 ej]; exact y2
    unfold SM1
    rw [tO 19 k (by decide) (by decide) (by decide) (by decide) (by decide) (by decide) (by decide), tO 20 k (by decide) (by decide) (by decide) (by decide) (by decide) (by decide) (by decide), tO 21 k (by decide) (by decide) (by decide) (by decide) (by decide) (by decide) (by decide), ma 19 k (by decide) (by decide) (by decide) (by decide) (by decide) (by decide) (by decide), ma 20 k (by decide) (by decide) (by decide) (by decide) (by decide) (by decide) (by decide), p30 30 k (Or.inl rfl), p30 31 k (Or.inr rfl), oo' _ hnc31, pK 20 _ (by decide) (by decide) hnc31 (by decide) (by decide), s8, s5]
    refine ⟨x19, x20, ?_, y1, h27, by omega, ?_⟩
    · rw [m21, p32, x21]
      by_cases cf : fl S z x
      · have hB' := hB (hcal.mpr cf.1)
        rw [hKmea cf.1 k ⟨a, b1⟩ hB']
        by_cases e1 : stk S (S 15 z) k = 1
        · rw [if_pos ⟨hfl.mpr cf, a, b1, e1⟩, if_pos ⟨cf, a, b1, e1⟩]
        · rw [if_neg (fun q => e1 q.2.2.2), if_neg (fun q => e1 q.2.2.2)]
      · rw [if_neg (fun q => cf (hfl.mp q.1)), if_neg (fun q => cf q.1)]
    · -- by the log
      have hold : lrc S' k nc.toNat = S 32 k := by
        rw [y4, t1]
        refine lrc_cong fun i i0 i1 => ?_
        have hin : i < nc := by omega
        exact lgc_of (nc := nc) (pK 25 i (by decide) (by decide) (by omega) (by decide) (by decide)) (p30 30 k (Or.inl rfl)) (pK 20 i (by decide) (by decide) (by omega) (by decide) (by decide)) (pK 23 i (by decide) (by decide) (by omega) (by decide) (by decide)) (p30 31 k (Or.inr rfl)) r31.2 fun j j0 j1 => ⟨(hdec j j0 j1).2, pK 24 j (by decide) (by decide) (by omega) (by decide) (by decide), hfree j j0 j1 i hin i0⟩
      have hnew : lgc S' k nc = if fl S z x then rst S (S 15 z) (S 8 0) 513 (S 31 k) else 0 := by
        unfold lgc
        rw [pN 25 (by decide) (by decide), n25, p30 30 k (Or.inl rfl), pN 20 (by decide) (by decide), n20, pN 23 (by decide) (by decide), n23, p30 31 k (Or.inr rfl)]
        by_cases cf : fl S z x
        · rw [if_pos cf, if_pos cf]
          rw [rst_loc (S := S) (S' := S') (nc := nc) (fun j j0 j1 => ⟨(hdec j j0 j1).2, pK 24 j (by decide) (by decide) (by omega) (by decide) (by decide), (by
            by_cases ej : j = S 15 z
            · exact Or.inl ej
            · exact Or.inr (by rw [p27 j (by omega) ej]))⟩) 513 (S 31 k) r31.2]
          have hb := rst_b S (S 15 z) (S 8 0) 513 (S 31 k)
          by_cases e1 : rst S (S 15 z) (S 8 0) 513 (S 31 k) = 0
          · rw [e1]; exact tf_f fun q => q.2.2 rfl
          · rw [tf_t ⟨by decide, y3, e1⟩]; omega
        · rw [if_neg cf, if_neg cf]
          exact tf_f fun q => q.1 rfl
      rw [show (nc + 1).toNat = nc.toNat + 1 by omega, lrc, hold, show ((nc.toNat : Nat) : Int) = nc by omega, hnew, p32]
      by_cases c32 : S 32 k = 0
      · rw [if_pos c32]
        by_cases cf : fl S z x
        · rw [if_pos cf]
          have hst : stk S (S 15 z) k = rst S (S 15 z) (S 8 0) 513 (S 31 k) := by rw [stk, if_pos c32]
          have hb := rst_b S (S 15 z) (S 8 0) 513 (S 31 k)
          rw [hst]
          by_cases e1 : rst S (S 15 z) (S 8 0) 513 (S 31 k) = 1
          · rw [if_pos ⟨cf, a, b1, e1⟩, e1]
          · rw [if_neg (fun q => e1 q.2.2.2), c32]; omega
        · rw [if_neg cf, if_neg (fun q => cf q.1), c32]
      · rw [if_neg c32]
        have : stk S (S 15 z) k = 0 := by rw [stk, if_neg c32]
        rw [if_neg (fun q => by rw [this] at q; exact absurd q.2.2.2 (by decide))]
        omega
  · have ez : i ≠ z := by omega
    rw [tI g i (by omega) ez]
    have h0 := hf i g a b1 p q
    by_cases g13 : g = 13
    · subst g13
      rw [m13, if_neg (by omega)]; exact h0
    · by_cases g14 : g = 14
      · subst g14
        rw [m14o i ez]; exact h0
      · by_cases g15 : g = 15
        · subst g15
          rw [(mpo i ez).1]; exact h0
        · rw [ma g i (by omega) g13 g14 g15 (by omega) (by omega) (by omega)]; exact h0
  · rw [tO 21 k (by decide) (by decide) (by decide) (by decide) (by decide) (by decide) (by decide), m21, if_neg (by omega)]
    exact hf2 k a
  · rw [kR, kmR]
    by_cases cf : fl S z x
    · rw [if_pos cf, if_pos (hfl.mpr cf), hstake cf.1 (hB (hcal.mpr cf.1))]
    · rw [if_neg cf, if_neg (fun q => cf (hfl.mp q))]
theorem Sim0 : Sim 0 0 0 0 S0 S0 := by
  refine ⟨⟨⟨by decide, by decide, by decide, rfl, rfl, by decide, trivial, by decide, by decide⟩, fun i a b => by omega, fun i a b => by omega, fun i a b => by omega, fun i a b => by omega⟩, ⟨by decide, by decide, by decide, by decide, fun i a b => by omega⟩, ⟨rfl, rfl, rfl, rfl, rfl, rfl⟩, (fun _ => 0), fun i a b => by omega, fun i a b => by omega, fun i j a b c => by omega, fun i a b => by omega, fun i g _ _ _ _ => rfl, fun k _ => rfl⟩
end SIMC
