/-! ===== the relation is kept: pass, refer, tell, measure ===== -/
section SIMW
variable {c n nc nm : Int} {S T : St}
theorem lrc_0 {S : St} {k : Int} : ∀ {m : Nat}, (∀ i : Int, 0 ≤ i → i < m → lgc S k i = 0) → lrc S k m = 0
  | 0, _ => rfl
  | m + 1, h => by
    rw [lrc, if_pos (lrc_0 fun i a b => h i a (by omega))]
    exact h m (by omega) (by omega)
theorem Sim.dec (h : Sim c n nc nm S T) {j : Int} (h0 : 0 ≤ j) (h1 : j < nc) : S 23 j < j ∧ S 24 j < j := by
  obtain ⟨-, -, -, w3, w4, -⟩ := h.1.kal h0 h1
  exact ⟨w3.2, w4.2⟩
theorem Sim.pass (h : Sim c n nc nm S T) (hc : c ≤ 511) {d : Int} (hd : 1 ≤ d ∧ d ≤ 999) : Sim (c + 1) n nc nm (up S 7 0 (S 7 0 + d)) (up T 1 0 (T 1 0 + d)) := by
  have hdec := fun j a b => h.dec (j := j) a b
  obtain ⟨hI, ⟨h3, h4, h5, h6, h7⟩, ⟨t1, t2, t3, t4, t5, t6⟩, ow, hi, hk, hmo, hm, hf, hf2⟩ := h
  obtain ⟨hn, hnc, hnm, e3, e4, e5, -, e7, e8⟩ := hI.top
  have oS : ∀ (g : Nat) (j : Int), g ≠ 7 → up S 7 0 (S 7 0 + d) g j = S g j := fun g j hg => up_f hg
  have oT : ∀ (g : Nat) (j : Int), g ≠ 1 → up T 1 0 (T 1 0 + d) g j = T g j := fun g j hg => up_f hg
  refine ⟨hI.up7 (by omega), ⟨by omega, ?_, ?_, by omega, fun i a b => ?_⟩, ⟨?_, ?_, ?_, ?_, ?_, ?_⟩, ow, fun i a b => ?_, fun j a b => ?_, fun i j a b e => ?_, fun k a b => ?_, fun i g a b p q => ?_, fun k a => ?_⟩
  · rw [up_s]; omega
  · rw [oS 8 0 (by decide)]; omega
  · rw [oS 16 i (by decide)]; have := h7 i a b; omega
  · rw [oS 5 0 (by decide)]; exact t1
  · rw [up_s, up_s, t2]
  · rw [oT 2 0 (by decide)]; exact t3
  · rw [oT 3 0 (by decide), oS 8 0 (by decide)]; exact t4
  · rw [oT 18 0 (by decide)]; exact t5
  · rw [oS 6 0 (by decide), t6]
    exact sm_cong fun i a b => (oS 32 i (by decide)).symm
  · have r5 := (hI.ins a b).2.2.2.2.2.1
    have g := hi i a b
    refine g.of (Int.le_refl n) (fun g p q r => oS g i (by omega)) (fun g j _ _ _ => oS g j (by omega)) (fun _ => oS 27 _ (by decide)) (fun x => ?_) (fun x => ?_) ?_ (fun g p q r => oT g i (by omega)) (fun j _ _ => ⟨oT 16 _ (by decide), oT 17 _ (by decide)⟩) (fun _ _ _ => rfl) (fun j x y => hdec j x (by omega))
    · rw [oT 13 i (by decide), oS 26 _ (by decide)]
      exact (g.2.2.1 x).2.2.2.2.2.2.2.1
    · rw [oT 13 i (by decide)]
      exact (g.2.1 x).2.2.2.2.2
    · rw [oT 4 i (by decide), oS 14 i (by decide)]
      exact g.1.1
  · obtain ⟨g1, g2, g3, g4, g5, g6⟩ := hk j a b
    refine ⟨g1, ?_, ?_, ?_, ?_, ?_⟩
    · rw [oS 15 _ (by decide)]; exact g2
    · rw [oS 15 _ (by decide), oS 27 _ (by decide), oS 20 _ (by decide)]; exact g3
    · rw [oS 24 _ (by decide), oS 27 _ (by decide), oS 20 _ (by decide)]; exact g4
    · rw [oS 20 _ (by decide), oS 8 _ (by decide)]; exact g5
    · rw [oS 21 _ (by decide), up_s]; omega
  · rw [oS 20 _ (by decide), oS 20 _ (by decide)]
    exact hmo i j a b e
  · exact (hm k a b).of hI a b ⟨oS 30 _ (by decide), oS 31 _ (by decide), oS 32 _ (by decide)⟩ ⟨oT 19 _ (by decide), oT 20 _ (by decide), oT 21 _ (by decide)⟩ rfl (fun g j p q _ _ => oS g j (by omega)) (by rw [oS 8 0 (by decide)]; exact Int.le_refl _) (oS 5 0 (by decide))
  · rw [oT g i (by omega)]; exact hf i g a b p q
  · rw [oT 21 k (by decide)]; exact hf2 k a
theorem Sim.refer (h : Sim c n nc nm S T) (hc : c ≤ 511) {z r : Int} (hz : 0 ≤ z ∧ z < n) (hr : r = -1 ∨ (0 ≤ r ∧ r < n)) (hch : Jvm.Pilot.CCalibratoryLaw_law_r5981_98d5a5.inCh (S 14) 12 r z = 0) : Sim (c + 1) n nc nm (up S 14 z r) (up T 4 z r) := by
  have hdec := fun j a b => h.dec (j := j) a b
  obtain ⟨hI, ⟨h3, h4, h5, h6, h7⟩, ⟨t1, t2, t3, t4, t5, t6⟩, ow, hi, hk, hmo, hm, hf, hf2⟩ := h
  obtain ⟨hn, hnc, hnm, e3, e4, e5, -, e7, e8⟩ := hI.top
  have oS : ∀ (g : Nat) (j : Int), g ≠ 14 → up S 14 z r g j = S g j := fun g j hg => up_f hg
  have oT : ∀ (g : Nat) (j : Int), g ≠ 4 → up T 4 z r g j = T g j := fun g j hg => up_f hg
  have r14 : ∀ i, 0 ≤ i → i < n → -1 ≤ up S 14 z r 14 i ∧ up S 14 z r 14 i < n := fun i a b => by
    by_cases e : i = z
    · rw [e, up_s]; omega
    · rw [up_i e]; exact (hI.ins a b).2.2.2.2.1
  have hoff : ∀ i, i ≠ z → up S 14 z r 14 i = S 14 i := fun i e => up_i e
  have hr12 : ends (up S 14 z r 14) 12 r := ends_off hoff 12 r hch (hI.ends (by omega) (by omega))
  have hI' : IC n nc nm (up S 14 z r) := by
    refine ⟨hI.1, fun i a b => ?_, hI.2.2.1, hI.2.2.2.1, fun i a b => ?_⟩
    · obtain ⟨g0, g1, g2, g3, g4, g5⟩ := hI.ins a b
      exact ⟨g0, g1, g2, g3, r14 i a b, g5⟩
    · obtain ⟨m, hm⟩ := ends_ref hoff up_s hr12 12 i (hI.2.2.2.2 i a b)
      exact ends_12 hn (fun j x y => (r14 j x y).2) b hm
  refine ⟨hI', ⟨by omega, ?_, ?_, by omega, fun i a b => ?_⟩, ⟨?_, ?_, ?_, ?_, ?_, ?_⟩, ow, fun i a b => ?_, fun j a b => ?_, fun i j a b e => ?_, fun k a b => ?_, fun i g a b p q => ?_, fun k a => ?_⟩
  · rw [oS 7 0 (by decide)]; omega
  · rw [oS 8 0 (by decide)]; omega
  · rw [oS 16 i (by decide)]; have := h7 i a b; omega
  · rw [oS 5 0 (by decide)]; exact t1
  · rw [oT 1 0 (by decide), oS 7 0 (by decide), t2]
  · rw [oT 2 0 (by decide)]; exact t3
  · rw [oT 3 0 (by decide), oS 8 0 (by decide)]; exact t4
  · rw [oT 18 0 (by decide)]; exact t5
  · rw [oS 6 0 (by decide), t6]
    exact sm_cong fun i a b => (oS 32 i (by decide)).symm
  · have r5 := (hI.ins a b).2.2.2.2.2.1
    have g := hi i a b
    refine g.of (Int.le_refl n) (fun g p q r => oS g i r) (fun g j _ _ _ => oS g j (by omega)) (fun _ => oS 27 _ (by decide)) (fun x => ?_) (fun x => ?_) ?_ (fun g p q r => oT g i (by omega)) (fun j _ _ => ⟨oT 16 _ (by decide), oT 17 _ (by decide)⟩) (fun _ _ _ => rfl) (fun j x y => hdec j x (by omega))
    · rw [oT 13 i (by decide), oS 26 _ (by decide)]
      exact (g.2.2.1 x).2.2.2.2.2.2.2.1
    · rw [oT 13 i (by decide)]
      exact (g.2.1 x).2.2.2.2.2
    · by_cases e : i = z
      · rw [e, up_s, up_s]
      · rw [up_i e, up_i e]; exact g.1.1
  · obtain ⟨g1, g2, g3, g4, g5, g6⟩ := hk j a b
    refine ⟨g1, ?_, ?_, ?_, ?_, ?_⟩
    · rw [oS 15 _ (by decide)]; exact g2
    · rw [oS 15 _ (by decide), oS 27 _ (by decide), oS 20 _ (by decide)]; exact g3
    · rw [oS 24 _ (by decide), oS 27 _ (by decide), oS 20 _ (by decide)]; exact g4
    · rw [oS 20 _ (by decide), oS 8 _ (by decide)]; exact g5
    · rw [oS 21 _ (by decide), oS 7 _ (by decide)]; exact g6
  · rw [oS 20 _ (by decide), oS 20 _ (by decide)]
    exact hmo i j a b e
  · exact (hm k a b).of hI a b ⟨oS 30 _ (by decide), oS 31 _ (by decide), oS 32 _ (by decide)⟩ ⟨oT 19 _ (by decide), oT 20 _ (by decide), oT 21 _ (by decide)⟩ rfl (fun g j p q _ _ => oS g j (by omega)) (by rw [oS 8 0 (by decide)]; exact Int.le_refl _) (oS 5 0 (by decide))
  · rw [oT g i (by omega)]; exact hf i g a b p q
  · rw [oT 21 k (by decide)]; exact hf2 k a
theorem Sim.tell (h : Sim c n nc nm S T) (hc : c ≤ 511) {t u v r : Int} (hr : r = -1 ∨ (0 ≤ r ∧ r < n)) (hg : (1 ≤ t ∧ t ≤ 9999) ∧ (0 ≤ u ∧ u ≤ 999) ∧ (1 ≤ v ∧ v ≤ 999)) (hn12 : n < 12) : Sim (c + 1) (n + 1) nc nm (tlS S n t u v r) (tlM T n r t u v) := by
  have hdec := fun j a b => h.dec (j := j) a b
  obtain ⟨hI, ⟨h3, h4, h5, h6, h7⟩, ⟨t1, t2, t3, t4, t5, t6⟩, ow, hi, hk, hmo, hm, hf, hf2⟩ := h
  obtain ⟨hn, hnc, hnm, e3, e4, e5, -, e7, e8⟩ := hI.top
  have oN : ∀ (g : Nat) (j : Int), g ≠ 3 → (j ≠ n ∨ g < 10 ∨ 18 < g) → tlS S n t u v r g j = S g j := fun g j hg hj => by
    rw [tlS, up_f hg]
    by_cases e : g = 14
    · subst e
      rw [up_i (by omega), nwI, if_neg (by omega)]
    · rw [up_f e, nwI, if_neg (by omega)]
  have sN : ∀ (g : Nat), 10 ≤ g → g ≤ 18 → g ≠ 14 → tlS S n t u v r g n = tlF n t u v (-1) g := fun g a b e => by
    rw [tlS, up_f (by omega), up_f e, nwI, if_pos ⟨rfl, a, b⟩]
  have s14 : tlS S n t u v r 14 n = r := by rw [tlS, up_f (by decide), up_s]
  have oT : ∀ (g : Nat) (j : Int), g ≠ 2 → (j ≠ n ∨ g < 4 ∨ 7 < g) → tlM T n r t u v g j = T g j := fun g j hg hj => by
    rw [tlM, up_f hg]
    have aux : ∀ (U : St) (f : Nat) (x : Int), 4 ≤ f → f ≤ 7 → up U f n x g j = U g j := fun U f x a b => by
      by_cases e : g = f
      · rw [e]; exact up_i (by omega)
      · exact up_f e
    rw [aux _ _ _ (by decide) (by decide), aux _ _ _ (by decide) (by decide), aux _ _ _ (by decide) (by decide), aux _ _ _ (by decide) (by decide)]
  have r14 : ∀ i, 0 ≤ i → i < n + 1 → -1 ≤ tlS S n t u v r 14 i ∧ tlS S n t u v r 14 i < n + 1 := fun i a b => by
    by_cases e : i = n
    · rw [e, s14]; omega
    · rw [oN 14 i (by decide) (Or.inl e)]; have := (hI.ins a (show i < n by omega)).2.2.2.2.1; omega
  have hend : ∀ i, i < n → ends (S 14) 12 i → ends (tlS S n t u v r 14) 12 i := fun i b x => ends_cong (ref := S 14) (n := n) (fun j p q => (hI.ins p q).2.2.2.2.1) (fun j p q => oN 14 j (by decide) (Or.inl (by omega))) 12 i b x
  have f10 : tlS S n t u v r 10 n = n := sN 10 (by decide) (by decide) (by decide)
  have f11 : tlS S n t u v r 11 n = t := sN 11 (by decide) (by decide) (by decide)
  have f12 : tlS S n t u v r 12 n = u := sN 12 (by decide) (by decide) (by decide)
  have f13 : tlS S n t u v r 13 n = v := sN 13 (by decide) (by decide) (by decide)
  have f15 : tlS S n t u v r 15 n = -1 := sN 15 (by decide) (by decide) (by decide)
  have f16 : tlS S n t u v r 16 n = 0 := sN 16 (by decide) (by decide) (by decide)
  have f17 : tlS S n t u v r 17 n = 0 := sN 17 (by decide) (by decide) (by decide)
  have f18 : tlS S n t u v r 18 n = 0 := sN 18 (by decide) (by decide) (by decide)
  have oK : ∀ (g : Nat) (j : Int), 18 < g → tlS S n t u v r g j = S g j := fun g j a => oN g j (by omega) (by omega)
  have o0 : ∀ (g : Nat) (j : Int), g < 10 → g ≠ 3 → tlS S n t u v r g j = S g j := fun g j a b => oN g j b (by omega)
  have hI' : IC (n + 1) nc nm (tlS S n t u v r) := by
    refine ⟨⟨by omega, hnc, hnm, by rw [tlS, up_s], ?_, ?_, trivial, ?_, ?_⟩, fun i a b => ?_, fun j a b => ?_, fun k a b => ?_, fun i a b => ?_⟩
    · rw [o0 4 0 (by decide) (by decide)]; exact e4
    · rw [o0 5 0 (by decide) (by decide)]; exact e5
    · rw [o0 7 0 (by decide) (by decide)]; exact e7
    · rw [o0 8 0 (by decide) (by decide)]; exact e8
    · have hr14 := r14 i a b
      by_cases e : i = n
      · subst e
        unfold RI
        rw [f10, f11, f12, f13, f15, f16, f17, f18]
        omega
      · have o : ∀ (g : Nat), 3 < g → tlS S n t u v r g i = S g i := fun g x => oN g i (by omega) (Or.inl e)
        obtain ⟨g0, g1, g2, g3, g4, g5, g6, g7, g8⟩ := hI.ins a (show i < n by omega)
        unfold RI
        rw [o 10 (by decide), o 11 (by decide), o 12 (by decide), o 13 (by decide), o 15 (by decide), o 16 (by decide), o 17 (by decide), o 18 (by decide)]
        exact ⟨g0, g1, g2, g3, hr14, g5, g6, g7, g8⟩
    · have g := hI.kal a b
      unfold RK at g ⊢
      rw [oK 20 j (by decide), oK 21 j (by decide), oK 22 j (by decide), oK 23 j (by decide), oK 24 j (by decide), oK 25 j (by decide), oK 26 j (by decide), oK 27 j (by decide), oK 28 j (by decide), oK 29 j (by decide)]
      exact g
    · have g := hI.mea a b
      unfold RM at g ⊢
      rw [oK 30 k (by decide), oK 31 k (by decide), oK 32 k (by decide)]
      exact g
    · by_cases e : i = n
      · have h13 : ends (tlS S n t u v r 14) 13 i := Or.inr (by rw [e, s14]; exact hend r (by omega) (hI.ends (by omega) (by omega)))
        exact ends_12 (n := n + 1) (by omega) (fun j x y => (r14 j x y).2) b h13
      · exact hend i (by omega) (hI.ends (by omega) (by omega))
  refine ⟨hI', ⟨by omega, ?_, ?_, by omega, fun i a b => ?_⟩, ⟨?_, ?_, ?_, ?_, ?_, ?_⟩, ow, fun i a b => ?_, fun j a b => ?_, fun i j a b e => ?_, fun k a b => ?_, fun i g a b p q => ?_, fun k a => ?_⟩
  · rw [o0 7 0 (by decide) (by decide)]; omega
  · rw [o0 8 0 (by decide) (by decide)]; omega
  · by_cases e : i = n
    · rw [e, f16]; omega
    · rw [oN 16 i (by decide) (Or.inl e)]; have := h7 i a (by omega); omega
  · rw [o0 5 0 (by decide) (by decide)]; exact t1
  · rw [oT 1 0 (by decide) (by omega), o0 7 0 (by decide) (by decide), t2]
  · rw [tlM, up_s]
  · rw [oT 3 0 (by decide) (by omega), o0 8 0 (by decide) (by decide)]; exact t4
  · rw [oT 18 0 (by decide) (by omega)]; exact t5
  · rw [o0 6 0 (by decide) (by decide), t6]
    exact sm_cong fun i a b => (oK 32 i (by decide)).symm
  · by_cases e : i = n
    · subst e
      have z := fun (g : Nat) (x : 8 ≤ g) (y : g ≤ 15) => (oT g i (by omega) (Or.inr (Or.inr (by omega)))).trans (hf i g (Int.le_refl i) (by omega) x y)
      have z4 : tlM T i r t u v 4 i = r := by rw [tlM, up_f (by decide), up_f (by decide), up_f (by decide), up_f (by decide), up_s]
      have z5 : tlM T i r t u v 5 i = t := by rw [tlM, up_f (by decide), up_f (by decide), up_f (by decide), up_s]
      have z6 : tlM T i r t u v 6 i = u := by rw [tlM, up_f (by decide), up_f (by decide), up_s]
      have z7 : tlM T i r t u v 7 i = v := by rw [tlM, up_f (by decide), up_s]
      have hsp := sp_n (S := tlS S i t u v r) (k := 513) (cnt := 0) (a := -1) (Or.inl (by decide))
      unfold SI1
      rw [f11, f12, f13, s14, f15, f16, f17, f18, z4, z5, z6, z7, z 8 (by decide) (by decide), z 9 (by decide) (by decide), z 10 (by decide) (by decide), z 11 (by decide) (by decide), z 12 (by decide) (by decide), z 13 (by decide) (by decide), z 14 (by decide) (by decide), z 15 (by decide) (by decide), hsp.1, hsp.2]
      exact ⟨⟨rfl, rfl, rfl, rfl, rfl⟩, fun _ => ⟨rfl, rfl, rfl, rfl, rfl, rfl⟩, fun x => absurd x (by decide), by rw [pts_n (by decide)]; rfl, by decide, rfl, rfl⟩
    · have b' : i < n := by omega
      have r5 := (hI.ins a b').2.2.2.2.2.1
      have g := hi i a b'
      refine g.of (by omega) (fun g p q r => oN g i (by omega) (Or.inl e)) (fun g j _ _ _ => oK g j (by omega)) (fun _ => oK 27 _ (by decide)) (fun x => ?_) (fun x => ?_) ?_ (fun g p q r => oT g i (by omega) (Or.inl e)) (fun j _ _ => ⟨oT 16 _ (by decide) (by omega), oT 17 _ (by decide) (by omega)⟩) (fun _ _ _ => rfl) (fun j x y => hdec j x (by omega))
      · rw [oT 13 i (by decide) (by omega), oK 26 _ (by decide)]
        exact (g.2.2.1 x).2.2.2.2.2.2.2.1
      · rw [oT 13 i (by decide) (by omega)]
        exact (g.2.1 x).2.2.2.2.2
      · rw [oT 4 i (by decide) (Or.inl e), oN 14 i (by decide) (Or.inl e)]; exact g.1.1
  · obtain ⟨g1, g2, g3, g4, g5, g6⟩ := hk j a b
    have o15 : tlS S n t u v r 15 (ow j) = S 15 (ow j) := oN 15 _ (by decide) (Or.inl (by omega))
    refine ⟨by omega, ?_, ?_, ?_, ?_, ?_⟩
    · rw [o15]; exact g2
    · rw [o15, oK 27 _ (by decide), oK 20 _ (by decide)]; exact g3
    · rw [oK 24 _ (by decide), oK 27 _ (by decide), oK 20 _ (by decide)]; exact g4
    · rw [oK 20 _ (by decide), o0 8 _ (by decide) (by decide)]; exact g5
    · rw [oK 21 _ (by decide), o0 7 _ (by decide) (by decide)]; exact g6
  · rw [oK 20 _ (by decide), oK 20 _ (by decide)]
    exact hmo i j a b e
  · exact (hm k a b).of hI a b ⟨oK 30 _ (by decide), oK 31 _ (by decide), oK 32 _ (by decide)⟩ ⟨oT 19 _ (by decide) (by omega), oT 20 _ (by decide) (by omega), oT 21 _ (by decide) (by omega)⟩ rfl (fun g j p q _ _ => oK g j (by omega)) (by rw [o0 8 0 (by decide) (by decide)]; exact Int.le_refl _) (o0 5 0 (by decide) (by decide))
  · rw [oT g i (by omega) (Or.inr (Or.inr (by omega)))]; exact hf i g (by omega) b p q
  · rw [oT 21 k (by decide) (by omega)]; exact hf2 k a
theorem Sim.measure (h : Sim c n nc nm S T) (hc : c ≤ 511) {z : Int} (hz : 0 ≤ z ∧ z < n) (hl : 0 ≤ S 15 z) (hm200 : nm < 200) : Sim (c + 1) n nc (nm + 1) (meS S nm z) (msM T nm z) := by
  have hdec := fun j a b => h.dec (j := j) a b
  obtain ⟨hI, ⟨h3, h4, h5, h6, h7⟩, ⟨t1, t2, t3, t4, t5, t6⟩, ow, hi, hk, hmo, hm, hf, hf2⟩ := h
  obtain ⟨hn, hnc, hnm, e3, e4, e5, -, e7, e8⟩ := hI.top
  have hlz := (hI.ins hz.1 hz.2).2.2.2.2.2.1.2
  have oN : ∀ (g : Nat) (j : Int), g ≠ 4 → g ≠ 8 → (j ≠ nm ∨ g < 30 ∨ 32 < g) → meS S nm z g j = S g j := fun g j a b hj => by
    rw [meS, up_f b, up_f a, nwM, if_neg (by omega)]
  have sN : ∀ (g : Nat), 30 ≤ g → g ≤ 32 → meS S nm z g nm = meF (S 8 0) (S 15 z) g := fun g a b => by
    rw [meS, up_f (by omega), up_f (by omega), nwM, if_pos ⟨rfl, a, b⟩]
  have f30 : meS S nm z 30 nm = S 8 0 := sN 30 (by decide) (by decide)
  have f31 : meS S nm z 31 nm = S 15 z := sN 31 (by decide) (by decide)
  have f32 : meS S nm z 32 nm = 0 := sN 32 (by decide) (by decide)
  have oK : ∀ (g : Nat) (j : Int), g ≠ 4 → g ≠ 8 → g < 30 → meS S nm z g j = S g j := fun g j a b x => oN g j a b (by omega)
  have s8 : meS S nm z 8 0 = S 8 0 + 1 := by rw [meS, up_s]
  have oT : ∀ (g : Nat) (j : Int), g ≠ 3 → g ≠ 18 → (j ≠ nm ∨ (g ≠ 19 ∧ g ≠ 20)) → msM T nm z g j = T g j := fun g j a b hj => by
    rw [msM, up_f b]
    by_cases e : g = 20
    · subst e
      rw [up_i (by omega), up_f (by decide), up_f a]
    · rw [up_f e]
      by_cases e2 : g = 19
      · subst e2
        rw [up_i (by omega), up_f a]
      · rw [up_f e2, up_f a]
  have hI' : IC n nc (nm + 1) (meS S nm z) := by
    refine ⟨⟨hn, hnc, by omega, ?_, ?_, ?_, trivial, ?_, ?_⟩, fun i a b => ?_, fun j a b => ?_, fun k a b => ?_, fun i a b => ?_⟩
    · rw [oK 3 0 (by decide) (by decide) (by decide)]; exact e3
    · rw [meS, up_f (by decide), up_s]
    · rw [oK 5 0 (by decide) (by decide) (by decide)]; exact e5
    · rw [oK 7 0 (by decide) (by decide) (by decide)]; exact e7
    · rw [s8]; omega
    · have g := hI.ins a b
      unfold RI at g ⊢
      rw [oK 10 i (by decide) (by decide) (by decide), oK 11 i (by decide) (by decide) (by decide), oK 12 i (by decide) (by decide) (by decide), oK 13 i (by decide) (by decide) (by decide), oK 14 i (by decide) (by decide) (by decide), oK 15 i (by decide) (by decide) (by decide), oK 16 i (by decide) (by decide) (by decide), oK 17 i (by decide) (by decide) (by decide), oK 18 i (by decide) (by decide) (by decide)]
      exact g
    · have g := hI.kal a b
      unfold RK at g ⊢
      rw [oK 20 j (by decide) (by decide) (by decide), oK 21 j (by decide) (by decide) (by decide), oK 22 j (by decide) (by decide) (by decide), oK 23 j (by decide) (by decide) (by decide), oK 24 j (by decide) (by decide) (by decide), oK 25 j (by decide) (by decide) (by decide), oK 26 j (by decide) (by decide) (by decide), oK 27 j (by decide) (by decide) (by decide), oK 28 j (by decide) (by decide) (by decide), oK 29 j (by decide) (by decide) (by decide)]
      exact g
    · by_cases e : k = nm
      · subst e
        unfold RM
        rw [f30, f31, f32]
        omega
      · have g := hI.mea a (show k < nm by omega)
        unfold RM at g ⊢
        rw [oN 30 k (by decide) (by decide) (Or.inl e), oN 31 k (by decide) (by decide) (Or.inl e), oN 32 k (by decide) (by decide) (Or.inl e)]
        exact g
    · have e : meS S nm z 14 = S 14 := by funext j; exact oK 14 j (by decide) (by decide) (by decide)
      rw [e]
      exact hI.2.2.2.2 i a b
  refine ⟨hI', ⟨by omega, ?_, ?_, by omega, fun i a b => ?_⟩, ⟨?_, ?_, ?_, ?_, ?_, ?_⟩, ow, fun i a b => ?_, fun j a b => ?_, fun i j a b e => ?_, fun k a b => ?_, fun i g a b p q => ?_, fun k a => ?_⟩
  · rw [oK 7 0 (by decide) (by decide) (by decide)]; omega
  · rw [s8]; omega
  · rw [oK 16 i (by decide) (by decide) (by decide)]; have := h7 i a b; omega
  · rw [oK 5 0 (by decide) (by decide) (by decide)]; exact t1
  · rw [oT 1 0 (by decide) (by decide) (by omega), oK 7 0 (by decide) (by decide) (by decide), t2]
  · rw [oT 2 0 (by decide) (by decide) (by omega)]; exact t3
  · rw [s8, msM, up_f (by decide), up_f (by decide), up_f (by decide), up_s, t4]
  · rw [msM, up_s]
  · rw [oK 6 0 (by decide) (by decide) (by decide), t6, sm_s hnm.1, f32, Int.add_zero]
    exact sm_cong fun i a b => (oN 32 i (by decide) (by decide) (Or.inl (by omega))).symm
  · have r5 := (hI.ins a b).2.2.2.2.2.1
    have g := hi i a b
    refine g.of (Int.le_refl n) (fun g p q r => oK g i (by omega) (by omega) (by omega)) (fun g j _ _ _ => oK g j (by omega) (by omega) (by omega)) (fun _ => oK 27 _ (by decide) (by decide) (by decide)) (fun x => ?_) (fun x => ?_) ?_ (fun g p q r => oT g i (by omega) (by omega) (by omega)) (fun j _ _ => ⟨oT 16 _ (by decide) (by decide) (by omega), oT 17 _ (by decide) (by decide) (by omega)⟩) (fun _ _ _ => rfl) (fun j x y => hdec j x (by omega))
    · rw [oT 13 i (by decide) (by decide) (by omega), oK 26 _ (by decide) (by decide) (by decide)]
      exact (g.2.2.1 x).2.2.2.2.2.2.2.1
    · rw [oT 13 i (by decide) (by decide) (by omega)]
      exact (g.2.1 x).2.2.2.2.2
    · rw [oT 4 i (by decide) (by decide) (by omega), oK 14 i (by decide) (by decide) (by decide)]; exact g.1.1
  · obtain ⟨g1, g2, g3, g4, g5, g6⟩ := hk j a b
    refine ⟨g1, ?_, ?_, ?_, ?_, ?_⟩
    · rw [oK 15 _ (by decide) (by decide) (by decide)]; exact g2
    · rw [oK 15 _ (by decide) (by decide) (by decide), oK 27 _ (by decide) (by decide) (by decide), oK 20 _ (by decide) (by decide) (by decide)]; exact g3
    · rw [oK 24 _ (by decide) (by decide) (by decide), oK 27 _ (by decide) (by decide) (by decide), oK 20 _ (by decide) (by decide) (by decide)]; exact g4
    · rw [oK 20 _ (by decide) (by decide) (by decide), s8]; omega
    · rw [oK 21 _ (by decide) (by decide) (by decide), oK 7 _ (by decide) (by decide) (by decide)]; exact g6
  · rw [oK 20 _ (by decide) (by decide) (by decide), oK 20 _ (by decide) (by decide) (by decide)]
    exact hmo i j a b e
  · by_cases e : k = nm
    · subst e
      obtain ⟨g1, g2, g3, g4, g5, g6⟩ := hk (S 15 z) hl hlz
      obtain ⟨-, -, gz, -⟩ := hi z hz.1 hz.2
      obtain ⟨-, -, -, -, -, -, -, -, zo, z27⟩ := gz hl
      have m19 : msM T k z 19 k = z := by rw [msM, up_f (by decide), up_f (by decide), up_s]
      have m20 : msM T k z 20 k = T 3 0 + 1 := by rw [msM, up_f (by decide), up_s]
      have m21 : msM T k z 21 k = 0 := by rw [oT 21 k (by decide) (by decide) (Or.inr (by decide))]; exact hf2 k (Int.le_refl _)
      unfold SM1
      rw [m19, m20, m21, f30, f31, f32, oK 20 _ (by decide) (by decide) (by decide), oK 27 _ (by decide) (by decide) (by decide), s8, oK 5 0 (by decide) (by decide) (by decide)]
      refine ⟨zo.symm, by rw [t4], rfl, g5, by rw [z27]; omega, by omega, ?_⟩
      refine (lrc_0 fun i x y => tf_f fun q => ?_).symm
      have := q.2.1
      rw [f30, oK 20 _ (by decide) (by decide) (by decide)] at this
      have := (hk i x (by omega)).2.2.2.2.1
      omega
    · exact (hm k a (by omega)).of hI a (by omega) ⟨oN 30 _ (by decide) (by decide) (Or.inl e), oN 31 _ (by decide) (by decide) (Or.inl e), oN 32 _ (by decide) (by decide) (Or.inl e)⟩ ⟨oT 19 _ (by decide) (by decide) (Or.inl e), oT 20 _ (by decide) (by decide) (Or.inl e), oT 21 _ (by decide) (by decide) (Or.inl e)⟩ rfl (fun g j p q _ _ => oK g j (by omega) (by omega) (by omega)) (by rw [s8]; omega) (oK 5 0 (by decide) (by decide) (by decide))
  · rw [oT g i (by omega) (by omega) (by omega)]; exact hf i g a b p q
  · rw [oT 21 k (by decide) (by decide) (Or.inr (by decide))]; exact hf2 k (by omega)
end SIMW
