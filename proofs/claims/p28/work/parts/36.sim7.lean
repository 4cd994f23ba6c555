/-! ===== what a calibration writes, column by column ===== -/
abbrev fl (S : St) (z x : Int) : Prop := 0 ≤ S 15 z ∧ S 11 z < iabs x
abbrev dy (S : St) (z : Int) : Prop := 0 ≤ S 15 z ∧ S 21 (S 15 z) < S 7 0
def met (n : Int) (S : St) (f j : Int) : Prop := ∃ u : Int, (0 ≤ u ∧ u < n) ∧ S 15 u = j ∧ 0 ≤ j ∧ rst S f (S 8 0) 513 (S 24 j) = 1
def KA (n nc nm : Int) (S K : St) (z x lf R : Int) : Prop :=
  (∀ g j, g < 10 → g ≠ 6 → K g j = S g j) ∧ (∀ g i, (10 ≤ g ∧ g ≤ 18 ∧ g ≠ 13 ∧ g ≠ 16) ∨ g = 30 ∨ g = 31 → K g i = S g i) ∧
  (K 13 z = if 0 ≤ S 15 z then niv (S 11 z) (iabs x) (S 13 z) else S 13 z) ∧ (∀ i, i ≠ z → K 13 i = S 13 i) ∧
  (K 16 z = if fl S z x then S 16 z + 1 else S 16 z) ∧ (∀ i, i ≠ z → K 16 i = S 16 i) ∧
  (∀ g j, 20 ≤ g → g ≤ 29 → j ≠ nc → g ≠ 26 → g ≠ 27 → K g j = S g j) ∧
  (0 ≤ S 15 z → K 27 (S 15 z) = S 8 0) ∧ (∀ j, j ≠ nc → j ≠ S 15 z → K 27 j = S 27 j) ∧
  (K 20 nc = S 8 0 ∧ K 21 nc = S 7 0 ∧ K 22 nc = lf ∧ K 23 nc = S 15 z ∧ K 24 nc = bas S z ∧ (K 25 nc = if fl S z x then 1 else 0) ∧ K 26 nc = 0 ∧ K 27 nc = 1000000 ∧ (K 28 nc = if dy S z then S 7 0 - S 21 (S 15 z) else 0) ∧ (K 29 nc = if dy S z then x - S 22 (S 15 z) else 0)) ∧
  (∀ j, j ≠ nc → (fl S z x ∧ met n S (S 15 z) j → K 26 j = 1) ∧ (¬ (fl S z x ∧ met n S (S 15 z) j) → K 26 j = S 26 j)) ∧
  (∀ k, K 32 k = if fl S z x ∧ 0 ≤ k ∧ k < nm ∧ stk S (S 15 z) k = 1 then 1 else S 32 k) ∧
  (K 6 0 = if fl S z x then S 6 0 + sm (stk S (S 15 z)) nm.toNat else S 6 0) ∧ (R = if fl S z x then sm (stk S (S 15 z)) nm.toNat else 0)
section KAS
variable {n nc nm : Int} {S : St}
theorem kaF_26 {z lf : Int} : kaF S z lf 20 = S 8 0 ∧ kaF S z lf 21 = S 7 0 ∧ kaF S z lf 22 = lf ∧ kaF S z lf 23 = S 15 z ∧ kaF S z lf 24 = bas S z ∧ kaF S z lf 25 = 0 ∧ kaF S z lf 26 = 0 ∧ kaF S z lf 27 = 1000000 ∧ kaF S z lf 28 = 0 ∧ kaF S z lf 29 = 0 := ⟨rfl, rfl, rfl, rfl, rfl, rfl, rfl, rfl, rfl, rfl⟩
theorem KA_new {z x lf : Int} (hF : S 15 z < 0) : KA n nc nm S (ka2 S nc nm z x lf) z x lf (kaR S nc nm z x lf) := by
  have e : ka2 S nc nm z x lf = ka1 S nc z lf := by rw [ka2, if_pos hF]
  have o : ∀ g j, (j ≠ nc ∨ g < 20 ∨ 29 < g) → ka1 S nc z lf g j = S g j := fun g j h => nwK_o h
  have s : ∀ g, 20 ≤ g ∧ g ≤ 29 → ka1 S nc z lf g nc = kaF S z lf g := fun g h => nwK_s h
  obtain ⟨k20, k21, k22, k23, k24, k25, k26, k27, k28, k29⟩ := kaF_26 (S := S) (z := z) (lf := lf)
  have nf : ¬ fl S z x := fun q => by have := q.1; omega
  have nd : ¬ dy S z := fun q => by have := q.1; omega
  rw [e]
  refine ⟨fun g j a b => o g j (by omega), fun g i a => o g i (by omega), ?_, fun i _ => o 13 i (by omega), ?_, fun i _ => o 16 i (by omega), fun g j a b d _ _ => o g j (Or.inl d), fun q => absurd q (by omega), fun j a _ => o 27 j (Or.inl a), ⟨?_, ?_, ?_, ?_, ?_, ?_, ?_, ?_, ?_, ?_⟩, fun j a => ⟨fun q => absurd q.1 nf, fun _ => o 26 j (Or.inl a)⟩, fun k => ?_, ?_, ?_⟩
  · rw [if_neg (by omega)]; exact o 13 z (by omega)
  · rw [if_neg nf]; exact o 16 z (by omega)
  · exact (s 20 (by decide)).trans k20
  · exact (s 21 (by decide)).trans k21
  · exact (s 22 (by decide)).trans k22
  · exact (s 23 (by decide)).trans k23
  · exact (s 24 (by decide)).trans k24
  · rw [if_neg nf]; exact (s 25 (by decide)).trans k25
  · exact (s 26 (by decide)).trans k26
  · exact (s 27 (by decide)).trans k27
  · rw [if_neg nd]; exact (s 28 (by decide)).trans k28
  · rw [if_neg nd]; exact (s 29 (by decide)).trans k29
  · rw [if_neg (fun q => nf q.1)]; exact o 32 k (by omega)
  · rw [if_neg nf]; exact o 6 0 (by omega)
  · rw [if_neg nf, kaR, if_pos hF]
theorem KA_old {z x lf : Int} (hI : IC n nc nm S) (hz : 0 ≤ z ∧ z < n) (hF : 0 ≤ S 15 z) : KA n nc nm S (ka2 S nc nm z x lf) z x lf (kaR S nc nm z x lf) := by
  obtain ⟨hn, hnc, hnm, e3, e4, e5, -, e7, e8⟩ := hI.top
  have hFn := (hI.ins hz.1 hz.2).2.2.2.2.2.1.2
  have hFc : S 15 z ≠ nc := by omega
  have hdec := fun j a b => (hI.kal (i := j) a b).2.2.2.2.1.2
  obtain ⟨A, hA⟩ : ∃ A, A = ka1 S nc z lf := ⟨_, rfl⟩
  have o : ∀ g j, (j ≠ nc ∨ g < 20 ∨ 29 < g) → A g j = S g j := fun g j h => by rw [hA]; exact nwK_o h
  have s : ∀ g, 20 ≤ g ∧ g ≤ 29 → A g nc = kaF S z lf g := fun g h => by rw [hA]; exact nwK_s h
  obtain ⟨k20, k21, k22, k23, k24, k25, k26, k27, k28, k29⟩ := kaF_26 (S := S) (z := z) (lf := lf)
  have hR : ∀ a, a < nc → rst A (S 15 z) (S 8 0) 513 a = rst S (S 15 z) (S 8 0) 513 a := fun a ha => rst_loc (nc := nc) (fun j p q => ⟨hdec j p q, o 24 j (Or.inl (by omega)), Or.inr (by rw [o 27 j (Or.inl (by omega))])⟩) 513 a ha
  have hstk : ∀ k, 0 ≤ k → k < nm → stk A (S 15 z) k = stk S (S 15 z) k := fun k a b => by
    unfold stk
    rw [o 32 k (by omega), o 8 0 (by omega), o 31 k (by omega), hR _ (hI.mea a b).2.1.2]
  -- what a failure writes
  obtain ⟨U, hU⟩ : ∃ U, U = st2 A nm z (S 15 z) nc x := ⟨_, rfl⟩
  have uk : ∀ g j, (g ≠ 32 ∧ g ≠ 26 ∧ g ≠ 6 ∧ g ≠ 25 ∧ g ≠ 16) → U g j = A g j := fun g j h => by rw [hU]; exact st2_keep h
  have a11 : A 11 z = S 11 z := o 11 z (by omega)
  have hflA : (A 11 z < iabs x) ↔ fl S z x := by rw [a11]; exact ⟨fun q => ⟨hF, q⟩, fun q => q.2⟩
  have hW : ∀ g j, (g ≠ 25 ∧ g ≠ 16) → st1 A z nc g j = A g j := fun g j h => by rw [st1, up_f h.2, up_f h.1]
  have hstW : ∀ k, stk (st1 A z nc) (S 15 z) k = stk A (S 15 z) k := fun k => by
    unfold stk
    rw [hW 32 k (by decide), hW 8 0 (by decide), hW 31 k (by decide), rst_ext (fun j => hW 24 j (by decide)) (fun j => hW 27 j (by decide))]
  have u25 : U 25 nc = if fl S z x then 1 else 0 := by
    rw [hU]
    by_cases c : fl S z x
    · rw [if_pos c, st2, if_pos (hflA.mpr c), cbS_keep (by decide), st1, up_f (by decide), up_s]
    · rw [if_neg c, st2, if_neg (fun q => c (hflA.mp q)), s 25 (by decide), k25]
  have u25o : ∀ j, j ≠ nc → U 25 j = S 25 j := fun j hj => by
    rw [hU, st2]
    split
    · rw [cbS_keep (by decide), st1, up_f (by decide), up_i hj, o 25 j (Or.inl hj)]
    · exact o 25 j (Or.inl hj)
  have u16 : U 16 z = if fl S z x then S 16 z + 1 else S 16 z := by
    rw [hU]
    by_cases c : fl S z x
    · rw [if_pos c, st2, if_pos (hflA.mpr c), cbS_keep (by decide), st1, up_s, o 16 z (by omega)]
    · rw [if_neg c, st2, if_neg (fun q => c (hflA.mp q)), o 16 z (by omega)]
  have u16o : ∀ i, i ≠ z → U 16 i = S 16 i := fun i hi => by
    rw [hU, st2]
    split
    · rw [cbS_keep (by decide), st1, up_i hi, up_f (by decide), o 16 i (by omega)]
    · exact o 16 i (by omega)
  have u32 : ∀ k, U 32 k = if fl S z x ∧ 0 ≤ k ∧ k < nm ∧ stk S (S 15 z) k = 1 then 1 else S 32 k := fun k => by
    rw [hU]
    by_cases c : fl S z x
    · rw [st2, if_pos (hflA.mpr c), cbS, cb2_keep _ _ _ (by decide), up_f (by decide), (cb1_at nm.toNat).1 k, hstW, hW 32 k (by decide), o 32 k (by omega)]
      by_cases d : 0 ≤ k ∧ k < nm ∧ stk S (S 15 z) k = 1
      · rw [if_pos ⟨d.1, by omega, by rw [hstk k d.1 d.2.1]; exact d.2.2⟩, if_pos ⟨c, d⟩]
      · rw [if_neg (fun q => d ⟨q.1, by omega, by rw [← hstk k q.1 (by omega)]; exact q.2.2⟩), if_neg (fun q => d q.2)]
    · rw [st2, if_neg (fun q => c (hflA.mp q)), if_neg (fun q => c q.1), o 32 k (by omega)]
  have hcbn : cbn (st1 A z nc) (S 15 z) nm.toNat = sm (stk S (S 15 z)) nm.toNat := by
    rw [(cb1_at nm.toNat).2]
    exact sm_cong fun i a b => by rw [hstW, hstk i a (by omega)]
  have u6 : U 6 0 = if fl S z x then S 6 0 + sm (stk S (S 15 z)) nm.toNat else S 6 0 := by
    rw [hU]
    by_cases c : fl S z x
    · rw [if_pos c, st2, if_pos (hflA.mpr c), cbS, cb2_keep _ _ _ (by decide), up_s, hcbn, cb1_keep _ _ _ (by decide), hW 6 0 (by decide), o 6 0 (by omega)]
    · rw [if_neg c, st2, if_neg (fun q => c (hflA.mp q)), o 6 0 (by omega)]
  have u26 : ∀ j, (j ≠ nc → (fl S z x ∧ met n S (S 15 z) j → U 26 j = 1) ∧ (¬ (fl S z x ∧ met n S (S 15 z) j) → U 26 j = S 26 j)) ∧ (j = nc → U 26 j = 0) := fun j => by
    rw [hU]
    by_cases c : fl S z x
    · rw [st2, if_pos (hflA.mpr c), cbS]
      obtain ⟨V, hV⟩ : ∃ V, V = up (cb1 (st1 A z nc) (S 15 z) nm.toNat) 6 0 (cb1 (st1 A z nc) (S 15 z) nm.toNat 6 0 + cbn (st1 A z nc) (S 15 z) nm.toNat) := ⟨_, rfl⟩
      rw [← hV]
      have v : ∀ g j, (g ≠ 25 ∧ g ≠ 16) → g ≠ 32 → g ≠ 6 → V g j = A g j := fun g j a b d => by rw [hV, up_f d, cb1_keep _ _ _ b, hW g j a]
      have hm : ∀ j, j < nc → (mets V (S 15 z) 12 j ↔ met n S (S 15 z) j) := fun j hj => by
        unfold mets met
        have e1 : V 3 0 = n := by rw [v 3 0 (by decide) (by decide) (by decide), o 3 0 (by omega)]; exact e3
        have e2 : V 8 0 = S 8 0 := by rw [v 8 0 (by decide) (by decide) (by decide), o 8 0 (by omega)]
        have e4 : 0 ≤ j → rst V (S 15 z) (S 8 0) 513 (V 24 j) = rst S (S 15 z) (S 8 0) 513 (S 24 j) := fun j0 => by
          rw [rst_ext (S := A) (fun j => v 24 j (by decide) (by decide) (by decide)) (fun j => v 27 j (by decide) (by decide) (by decide)), v 24 j (by decide) (by decide) (by decide), o 24 j (Or.inl (by omega))]
          have := hdec j j0 hj
          exact hR _ (by omega)
        constructor
        · rintro ⟨u, p1, p2, p3, p4, p5⟩
          rw [e2, e4 p4] at p5
          rw [v 15 u (by decide) (by decide) (by decide), o 15 u (by omega)] at p3
          exact ⟨u, by omega, p3, p4, p5⟩
        · rintro ⟨u, p1, p3, p4, p5⟩
          exact ⟨u, by omega, by omega, by rw [v 15 u (by decide) (by decide) (by decide), o 15 u (by omega)]; exact p3, p4, by rw [e2, e4 p4]; exact p5⟩
      obtain ⟨g1, g2⟩ := cb2_at (T := V) (f := S 15 z) 12 j
      constructor
      · intro hj
        by_cases hjn : j < nc
        · constructor
          · exact fun q => g1 ((hm j hjn).mpr q.2)
          · exact fun q => (g2 fun w => q ⟨c, (hm j hjn).mp w⟩).trans ((v 26 j (by decide) (by decide) (by decide)).trans (o 26 j (Or.inl hj)))
        · constructor
          · rintro ⟨-, u, p1, p2, -⟩
            have := (hI.ins p1.1 p1.2).2.2.2.2.2.1.2
            omega
          · refine fun _ => (g2 ?_).trans ((v 26 j (by decide) (by decide) (by decide)).trans (o 26 j (Or.inl hj)))
            rintro ⟨u, p1, p2, p3, p4, p5⟩
            rw [v 3 0 (by decide) (by decide) (by decide), o 3 0 (by omega), e3] at p2
            rw [v 15 u (by decide) (by decide) (by decide), o 15 u (by omega)] at p3
            have := (hI.ins p1.1 p2).2.2.2.2.2.1.2
            omega
      · intro hj
        refine (g2 ?_).trans ((v 26 j (by decide) (by decide) (by decide)).trans (by rw [hj]; exact (s 26 (by decide)).trans k26))
        rintro ⟨u, p1, p2, p3, p4, p5⟩
        rw [v 3 0 (by decide) (by decide) (by decide), o 3 0 (by omega), e3] at p2
        rw [v 15 u (by decide) (by decide) (by decide), o 15 u (by omega)] at p3
        have := (hI.ins p1.1 p2).2.2.2.2.2.1.2
        omega
    · rw [st2, if_neg (fun q => c (hflA.mp q))]
      exact ⟨fun hj => ⟨fun q => absurd q.1 c, fun _ => o 26 j (Or.inl hj)⟩, fun hj => by rw [hj]; exact (s 26 (by decide)).trans k26⟩
  -- the rest of settle
  obtain ⟨K, hK⟩ : ∃ K, K = ka2 S nc nm z x lf := ⟨_, rfl⟩
  have hKst : K = st5 A nm z (S 15 z) nc x := by rw [hK, ka2, if_neg (by omega), hA]
  have hdyA : (A 21 (S 15 z) < A 21 nc) ↔ dy S z := by
    rw [o 21 _ (Or.inl hFc), s 21 (by decide), k21]
    exact ⟨fun q => ⟨hF, q⟩, fun q => q.2⟩
  have k3 : ∀ g j, g ≠ 13 → st3 A nm z (S 15 z) nc x g j = U g j := fun g j h => by rw [st3, up_f h, hU]
  have kU : ∀ g j, (g ≠ 27 ∧ g ≠ 28 ∧ g ≠ 29 ∧ g ≠ 13) → K g j = U g j := fun g j h => by
    rw [hKst, st5, up_f h.1, st4]
    split
    · rw [up_f h.2.2.1, up_f h.2.1, k3 g j h.2.2.2]
    · exact k3 g j h.2.2.2
  have k13 : ∀ j, K 13 j = st3 A nm z (S 15 z) nc x 13 j := fun j => by
    rw [hKst, st5, up_f (by decide), st4]
    split
    · rw [up_f (by decide), up_f (by decide)]
    · rfl
  have kd : ∀ g j, g = 28 ∨ g = 29 → j ≠ nc → K g j = U g j := fun g j h hj => by
    rw [hKst, st5, up_f (by omega), st4]
    split
    · have aux : ∀ (X : St) (f : Nat) (w : Int), up X f nc w g j = X g j := fun X f w => up_i hj
      rw [aux, aux, k3 g j (by omega)]
    · exact k3 g j (by omega)
  rw [← hK]
  refine ⟨fun g j a b => ?_, fun g i a => ?_, ?_, fun i hi => ?_, ?_, fun i hi => ?_, fun g j a b d e f => ?_, fun _ => ?_, fun j a b => ?_, ⟨?_, ?_, ?_, ?_, ?_, ?_, ?_, ?_, ?_, ?_⟩, fun j a => ?_, fun k => ?_, ?_, ?_⟩
  · rw [kU g j (by omega), uk g j (by omega), o g j (by omega)]
  · rw [kU g i (by omega), uk g i (by omega), o g i (by omega)]
  · rw [k13, st3, up_s, if_pos hF, a11, o 13 z (by omega)]
  · rw [k13, st3, up_i hi, ← hU, uk 13 i (by decide), o 13 i (by omega)]
  · rw [kU 16 z (by decide)]; exact u16
  · rw [kU 16 i (by decide)]; exact u16o i hi
  · by_cases g25 : g = 25
    · subst g25
      rw [kU 25 j (by decide)]; exact u25o j d
    · by_cases g28 : g = 28 ∨ g = 29
      · rw [kd g j g28 d, uk g j (by omega), o g j (Or.inl d)]
      · rw [kU g j (by omega), uk g j (by omega), o g j (Or.inl d)]
  · rw [hKst, st5, up_s, s 20 (by decide), k20]
  · rw [hKst, st5, up_i b, st4]
    split
    · rw [up_f (by decide), up_f (by decide), k3 27 j (by decide), uk 27 j (by decide), o 27 j (Or.inl a)]
    · rw [k3 27 j (by decide), uk 27 j (by decide), o 27 j (Or.inl a)]
  · rw [kU 20 nc (by decide), uk 20 nc (by decide), s 20 (by decide), k20]
  · rw [kU 21 nc (by decide), uk 21 nc (by decide), s 21 (by decide), k21]
  · rw [kU 22 nc (by decide), uk 22 nc (by decide), s 22 (by decide), k22]
  · rw [kU 23 nc (by decide), uk 23 nc (by decide), s 23 (by decide), k23]
  · rw [kU 24 nc (by decide), uk 24 nc (by decide), s 24 (by decide), k24]
  · rw [kU 25 nc (by decide)]; exact u25
  · rw [kU 26 nc (by decide)]; exact (u26 nc).2 rfl
  · rw [hKst, st5, up_i (Ne.symm hFc), st4]
    split
    · rw [up_f (by decide), up_f (by decide), k3 27 nc (by decide), uk 27 nc (by decide), s 27 (by decide), k27]
    · rw [k3 27 nc (by decide), uk 27 nc (by decide), s 27 (by decide), k27]
  · rw [hKst, st5, up_f (by decide), st4]
    by_cases c : dy S z
    · rw [if_pos c, if_pos (hdyA.mpr c), up_f (by decide), up_s, o 21 _ (Or.inl hFc), s 21 (by decide), k21]
    · rw [if_neg c, if_neg (fun q => c (hdyA.mp q)), k3 28 nc (by decide), uk 28 nc (by decide), s 28 (by decide), k28]
  · rw [hKst, st5, up_f (by decide), st4]
    by_cases c : dy S z
    · rw [if_pos c, if_pos (hdyA.mpr c), up_s, o 22 _ (Or.inl hFc)]
    · rw [if_neg c, if_neg (fun q => c (hdyA.mp q)), k3 29 nc (by decide), uk 29 nc (by decide), s 29 (by decide), k29]
  · rw [kU 26 j (by decide)]; exact (u26 j).1 a
  · rw [kU 32 k (by decide)]; exact u32 k
  · rw [kU 6 0 (by decide)]; exact u6
  · rw [kaR, if_neg (by omega), stR, ← hA]
    by_cases c : fl S z x
    · rw [if_pos c, if_pos (hflA.mpr c)]; exact hcbn
    · rw [if_neg c, if_neg (fun q => c (hflA.mp q))]
theorem KA_all {z x lf : Int} (hI : IC n nc nm S) (hz : 0 ≤ z ∧ z < n) : KA n nc nm S (ka2 S nc nm z x lf) z x lf (kaR S nc nm z x lf) := by
  by_cases c : S 15 z < 0
  · exact KA_new c
  · exact KA_old hI hz (by omega)
end KAS
