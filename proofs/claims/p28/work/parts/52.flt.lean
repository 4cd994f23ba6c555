/-! ===== the sign of the slope as a double ===== -/
theorem sgd_abs (s : Bool) (c : Nat) : (FP.Core.signed s c).natAbs = c := by
  cases s
  · exact Int.natAbs_natCast c
  · show (-(c : Int)).natAbs = c
    rw [Int.natAbs_neg, Int.natAbs_natCast]
theorem whole_abs {i : Int} {s : Bool} {c : Nat} {q : Int} (h : FP.Core.Whole i (.fin s c q)) : c * 2 ^ q.toNat = i.natAbs * 2 ^ (-q).toNat := by
  have h1 : FP.Core.signed s (c * 2 ^ q.toNat) = i * ((2 ^ (-q).toNat : Nat) : Int) := h
  have h2 := congrArg Int.natAbs h1
  rw [sgd_abs, Int.natAbs_mul, Int.natAbs_natCast] at h2
  exact h2
theorem ratio_pos {s : Bool} {c d : Nat} {q r : Int} {a m : Nat} (hp : 1 ≤ a) (hm : m ≤ 2 ^ 42) (h1 : c * 2 ^ q.toNat = a * 2 ^ (-q).toNat) (h2 : d * 2 ^ r.toNat = m * 2 ^ (-r).toNat) (hd : 0 < d) (hq : -1074 ≤ q) (hr : r ≤ 971) : 1 ≤ FP.Core.zmag FP.Core.b64 (FP.Core.roundRatio FP.Core.b64 s c d (q - r)) := by
  have hqm : FP.Core.b64.qmin = -1074 := FP.Core.qmin_b64
  have hV : FP.Core.zmag FP.Core.b64 (.fin false 1 FP.Core.b64.qmin) = 1 := by
    show 1 * 2 ^ (FP.Core.b64.qmin - FP.Core.b64.qmin).toNat = 1
    rw [Int.sub_self]
    rfl
  rw [← hV]
  refine FP.Core.zmag_roundRatio_ge FP.Core.good_b64 (e0 := -5000) hd ⟨by decide, Int.le_refl _, by decide, Or.inl rfl⟩ (by rw [hqm]; decide) (by omega) ?_
  rw [hV, Nat.one_mul, hqm]
  show 2 ^ (-1074 - -5000 : Int).toNat * d ≤ c * 2 ^ (q - r - -5000).toNat
  have e1 : (-1074 - -5000 : Int).toNat = 3926 := by decide
  rw [e1]
  refine Nat.le_of_mul_le_mul_right (c := 2 ^ q.toNat * 2 ^ r.toNat) ?_ (Nat.mul_pos (Nat.two_pow_pos _) (Nat.two_pow_pos _))
  have f1 : 2 ^ 3926 * d * (2 ^ q.toNat * 2 ^ r.toNat) = 2 ^ 3926 * (d * 2 ^ r.toNat) * 2 ^ q.toNat := by
    rw [Nat.mul_comm (2 ^ q.toNat), ← Nat.mul_assoc, Nat.mul_assoc (2 ^ 3926) d]
  have f2 : c * 2 ^ (q - r - -5000).toNat * (2 ^ q.toNat * 2 ^ r.toNat) = (c * 2 ^ q.toNat) * 2 ^ (q - r - -5000).toNat * 2 ^ r.toNat := by
    rw [← Nat.mul_assoc, Nat.mul_right_comm c]
  rw [f1, f2, h1, h2]
  have g1 : 2 ^ 3926 * (m * 2 ^ (-r).toNat) * 2 ^ q.toNat ≤ 2 ^ (3926 + 42 + (-r).toNat + q.toNat) := by
    have g0 : 2 ^ (3926 + 42 + (-r).toNat + q.toNat) = 2 ^ 3926 * (2 ^ 42 * 2 ^ (-r).toNat) * 2 ^ q.toNat := by
      rw [Nat.pow_add 2 (3926 + 42 + (-r).toNat), Nat.pow_add 2 (3926 + 42), Nat.pow_add 2 3926 42, Nat.mul_assoc (2 ^ 3926) (2 ^ 42)]
    rw [g0]
    exact Nat.mul_le_mul_right _ (Nat.mul_le_mul_left _ (Nat.mul_le_mul_right _ hm))
  have g2 : 2 ^ ((-q).toNat + (q - r - -5000).toNat + r.toNat) ≤ a * 2 ^ (-q).toNat * 2 ^ (q - r - -5000).toNat * 2 ^ r.toNat := by
    rw [Nat.pow_add 2 ((-q).toNat + (q - r - -5000).toNat), Nat.pow_add 2 (-q).toNat]
    exact Nat.mul_le_mul_right _ (Nat.mul_le_mul_right _ (Nat.le_mul_of_pos_left _ (by omega)))
  exact Nat.le_trans g1 (Nat.le_trans (Nat.pow_le_pow_right (by decide) (by omega)) g2)
theorem zval0 : FP.Core.zval FP.Core.b64 (FP.Core.val64 FP.dconst0) = 0 := by
  rw [show FP.Core.val64 FP.dconst0 = .fin false 0 FP.Core.b64.qmin from FP.Core.val64_dconst0]
  show FP.Core.signed false (0 * _) = 0
  rw [Nat.zero_mul]
  rfl
theorem sgd_le {s : Bool} {x : Nat} : (s = false → 0 ≤ FP.Core.signed s x) ∧ (s = true → 1 ≤ x → FP.Core.signed s x < 0) := by
  constructor
  · rintro rfl
    exact Int.natCast_nonneg x
  · rintro rfl h
    show -(x : Int) < 0
    omega
/-- the sign of the slope: below 0 only where the sum of the products is; else at least 0 -/
theorem slope_sgn {P Q : Int} (hP : -900000000000 ≤ P ∧ P ≤ 900000000000) (hQ : Q ≤ 2200000000000) : ∃ z : Int, Op.cmpValue (FP.dcmp (slP P Q) FP.dconst0) CmpOp.l = iI z ∧ (-1 ≤ z ∧ z ≤ 1) ∧ (z < 0 → P ≤ 0 ∨ Q ≤ 0) ∧ (0 ≤ z → 0 ≤ P ∨ Q ≤ 0) ∧ (Q ≤ 0 → z = 0) := by
  by_cases hq : Q ≤ 0
  · refine ⟨0, ?_, by decide, fun _ => Or.inr hq, fun _ => Or.inr hq, fun _ => rfl⟩
    rw [slP, if_pos hq]
    decide +kernel
  · rw [slP, if_neg hq]
    have w1 := FP.Core.l2d_int (a := iL P) (by rw [iL_T (by omega)]; omega)
    have w2 := FP.Core.l2d_int (a := iL Q) (by rw [iL_T (by omega)]; omega)
    rw [iL_T (by omega)] at w1 w2
    obtain ⟨s, c, q, e1, -⟩ := whole_fin w1
    obtain ⟨t, d, r, e2, hd⟩ := whole_fin w2
    have hd0 := hd (by omega)
    have fq := FP.Core.val64_fits (FP.Core.l2d (iL P))
    have fr := FP.Core.val64_fits (FP.Core.l2d (iL Q))
    rw [e1] at fq
    rw [e2] at fr
    have hqm : FP.Core.b64.qmin = -1074 := FP.Core.qmin_b64
    have hqx : FP.Core.b64.qmax = 971 := by decide
    unfold FP.Core.DInt at w1 w2
    rw [e1] at w1
    rw [e2] at w2
    have a1 := whole_abs w1
    have a2 := whole_abs w2
    have hv : FP.Core.val64 (FP.ddiv (FP.l2d (iL P)) (FP.l2d (iL Q))) = FP.Core.roundRatio FP.Core.b64 (s != t) c d (q - r) := by
      show FP.Core.val64 (FP.Core.ddiv (FP.Core.l2d (iL P)) (FP.Core.l2d (iL Q))) = _
      rw [FP.Core.val64_ddiv, e1, e2]
      show (if d = 0 then _ else _) = _
      rw [if_neg hd0]
    have hn1 : FP.Core.val64 (FP.ddiv (FP.l2d (iL P)) (FP.l2d (iL Q))) ≠ .nan := by rw [hv]; exact ratio_nan _ _ _ _ _
    have hn2 : FP.Core.val64 FP.dconst0 ≠ .nan := by
      rw [show FP.Core.val64 FP.dconst0 = .fin false 0 FP.Core.b64.qmin from FP.Core.val64_dconst0]
      exact fun z => by cases z
    have hc : FP.dcmp (FP.ddiv (FP.l2d (iL P)) (FP.l2d (iL Q))) FP.dconst0 = some (compare (FP.Core.zval FP.Core.b64 (FP.Core.val64 (FP.ddiv (FP.l2d (iL P)) (FP.l2d (iL Q))))) 0) := by
      have := FP.Core.dcmp_zval hn1 hn2
      rw [zval0] at this
      exact this
    rw [hc, hv]
    -- the signs
    have sq : t = false := by
      cases t with
      | false => rfl
      | true =>
        have h1 : FP.Core.signed true (d * 2 ^ r.toNat) = Q * ((2 ^ (-r).toNat : Nat) : Int) := w2
        have h2 : 0 < Q * ((2 ^ (-r).toNat : Nat) : Int) := Int.mul_pos (by omega) (by exact_mod_cast Nat.two_pow_pos _)
        have h3 : FP.Core.signed true (d * 2 ^ r.toNat) = -((d * 2 ^ r.toNat : Nat) : Int) := rfl
        omega
    have sp0 : P < 0 → s = true := by
      intro hp
      cases s with
      | true => rfl
      | false =>
        have h1 : FP.Core.signed false (c * 2 ^ q.toNat) = P * ((2 ^ (-q).toNat : Nat) : Int) := w1
        have h2 : P * ((2 ^ (-q).toNat : Nat) : Int) < 0 := Int.mul_neg_of_neg_of_pos hp (by exact_mod_cast Nat.two_pow_pos _)
        have h3 : FP.Core.signed false (c * 2 ^ q.toNat) = ((c * 2 ^ q.toNat : Nat) : Int) := rfl
        omega
    have sp1 : 0 < P → s = false := by
      intro hp
      cases s with
      | false => rfl
      | true =>
        have h1 : FP.Core.signed true (c * 2 ^ q.toNat) = P * ((2 ^ (-q).toNat : Nat) : Int) := w1
        have h2 : 0 < P * ((2 ^ (-q).toNat : Nat) : Int) := Int.mul_pos hp (by exact_mod_cast Nat.two_pow_pos _)
        have h3 : FP.Core.signed true (c * 2 ^ q.toNat) = -((c * 2 ^ q.toNat : Nat) : Int) := rfl
        omega
    subst sq
    have hzv : FP.Core.zval FP.Core.b64 (FP.Core.roundRatio FP.Core.b64 (s != false) c d (q - r)) = FP.Core.signed s (FP.Core.zmag FP.Core.b64 (FP.Core.roundRatio FP.Core.b64 (s != false) c d (q - r))) := by
      unfold FP.Core.zval
      rw [FP.Core.sgn_roundRatio]
      cases s <;> rfl
    rw [hzv]
    have hpos : P ≠ 0 → 1 ≤ FP.Core.zmag FP.Core.b64 (FP.Core.roundRatio FP.Core.b64 (s != false) c d (q - r)) := fun hp =>
      ratio_pos (a := P.natAbs) (m := Q.natAbs) (by omega) (by omega) a1 a2 (by omega) (by rw [← hqm]; exact fq.2.1) (by rw [← hqx]; exact fr.2.2.1)
    generalize FP.Core.zmag FP.Core.b64 (FP.Core.roundRatio FP.Core.b64 (s != false) c d (q - r)) = X at hpos ⊢
    rcases Int.lt_trichotomy (FP.Core.signed s X) 0 with h | h | h
    · refine ⟨-1, ?_, by decide, fun _ => Or.inl (Int.not_lt.mp fun z => ?_), fun z => absurd z (by decide), fun z => absurd z hq⟩
      · rw [show compare (FP.Core.signed s X) (0 : Int) = .lt from (FP.Core.compare_lt_iff _ _).mpr h]
        rfl
      · have := (sgd_le (x := X)).1 (sp1 z)
        omega
    · refine ⟨0, ?_, by decide, fun z => absurd z (by decide), fun _ => Or.inl (Int.not_lt.mp fun z => ?_), fun z => absurd z hq⟩
      · rw [show compare (FP.Core.signed s X) (0 : Int) = .eq from (FP.Core.compare_eq_iff _ _).mpr h]
        rfl
      · have := (sgd_le (x := X)).2 (sp0 z) (hpos (by omega))
        omega
    · refine ⟨1, ?_, by decide, fun z => absurd z (by decide), fun _ => Or.inl (Int.not_lt.mp fun z => ?_), fun z => absurd z hq⟩
      · rw [show compare (FP.Core.signed s X) (0 : Int) = .gt from (FP.Core.compare_gt_iff _ _).mpr h]
        rfl
      · have := (sgd_le (x := X)).2 (sp0 z) (hpos (by omega))
        omega
