/-! ===== what the law holds of the state, call by call ===== -/
section PUR
variable {c n nc nm : Int} {S T : St}
theorem Sim.k27 (h : Sim c n nc nm S T) {j : Int} (h0 : 0 ≤ j) (h1 : j < nc) : S 27 j < S 8 0 ∨ S 27 j = 1000000 := by
  obtain ⟨ow, hi, hk, -⟩ := h.ow
  obtain ⟨o1, o2, o3, -⟩ := hk j h0 h1
  have h15 := (h.1.ins o1.1 o1.2).2.2.2.2.2.1.2
  by_cases e : j = S 15 (ow j)
  · obtain ⟨-, -, q, -⟩ := hi (ow j) o1.1 o1.2
    obtain ⟨-, -, -, -, -, -, -, -, -, q27⟩ := q (by omega)
    rw [← e] at q27
    exact Or.inr q27
  · have h2 := o3 e
    obtain ⟨-, -, -, -, p20, -⟩ := hk (S 15 (ow j)) (by omega) h15
    exact Or.inl (by omega)
theorem rst_mom {f m m' : Int} (h : ∀ j, 0 ≤ j → j < nc → S 24 j < j ∧ (S 27 j < m' ↔ S 27 j < m)) : ∀ (k : Nat) (a : Int), a < nc → rst S f m' k a = rst S f m k a
  | 0, _, _ => rfl
  | k + 1, a, ha => by
    by_cases hu : a < 0
    · rw [rst_n hu, rst_n hu]
    · obtain ⟨h1, h2⟩ := h a (by omega) ha
      by_cases e : a = f
      · rw [rst_e (by omega) e, rst_e (by omega) e]
      · by_cases z : S 27 a < m
        · rw [rst_o (by omega) e z, rst_o (by omega) e (h2.mpr z)]
        · rw [rst_s (mom := m') (by omega) e (Int.not_lt.mp fun q => z (h2.mp q)), rst_s (mom := m) (by omega) e (by omega), rst_mom h k (S 24 a) (by omega)]
/-- what lies below a calibration never rests on it -/
theorem rst_no {f m : Int} (h : ∀ j, 0 ≤ j → j < f → S 24 j < j) : ∀ (k : Nat) (a : Int), a < f → rst S f m k a = 0
  | 0, _, _ => rfl
  | k + 1, a, ha => by
    by_cases hu : a < 0
    · rw [rst_n hu]
    · have h1 := h a (by omega) ha
      by_cases z : S 27 a < m
      · rw [rst_o (by omega) (by omega) z]
      · rw [rst_s (by omega) (by omega) (by omega), rst_no h k (S 24 a) (by omega)]
theorem me_at {z : Int} {g : Nat} {j : Int} (h : g ≠ 4 ∧ g ≠ 8 ∧ (g < 30 ∨ 32 < g ∨ j ≠ nm)) : meS S nm z g j = S g j := by
  rw [meS, up_f h.2.1, up_f h.1, nwM, if_neg (by omega)]
theorem me_new {z : Int} : meS S nm z 31 nm = S 15 z ∧ meS S nm z 32 nm = 0 ∧ meS S nm z 8 0 = S 8 0 + 1 := by
  refine ⟨?_, ?_, ?_⟩
  · rw [meS, up_f (by decide), up_f (by decide), nwM, if_pos ⟨rfl, by decide, by decide⟩]
    rfl
  · rw [meS, up_f (by decide), up_f (by decide), nwM, if_pos ⟨rfl, by decide, by decide⟩]
    rfl
  · rw [meS, up_s]
theorem Sim.me_stake (h : Sim c n nc nm S T) (hc : c ≤ 511) {z : Int} (hz : 0 ≤ z ∧ z < n) (hl : 0 ≤ S 15 z) : sm (stk (meS S nm z) (S 15 z)) (nm + 1).toNat = sm (stk S (S 15 z)) nm.toNat + 1 := by
  obtain ⟨-, hnc, hnm, -⟩ := h.1.top
  have h8 := h.2.1.2.2.1
  obtain ⟨m31, m32, m8⟩ := me_new (S := S) (nm := nm) (z := z)
  have h1 : stk (meS S nm z) (S 15 z) nm = 1 := by
    rw [stk, m32, if_pos rfl, m31]
    exact rst_e hl rfl
  have h2 : sm (stk (meS S nm z) (S 15 z)) nm.toNat = sm (stk S (S 15 z)) nm.toNat := by
    refine sm_cong fun i a b => ?_
    have hi : i < nm := by omega
    have e27 : ∀ j : Int, meS S nm z 27 j = S 27 j := fun j => me_at ⟨by decide, by decide, Or.inl (by decide)⟩
    have e24 : ∀ j : Int, meS S nm z 24 j = S 24 j := fun j => me_at ⟨by decide, by decide, Or.inl (by decide)⟩
    unfold stk
    rw [me_at (g := 32) (j := i) ⟨by decide, by decide, Or.inr (Or.inr (by omega))⟩, me_at (g := 31) (j := i) ⟨by decide, by decide, Or.inr (Or.inr (by omega))⟩, m8, rst_ext e24 e27]
    obtain ⟨-, r31, -⟩ := h.1.mea a hi
    rw [rst_mom (S := S) (nc := nc) (m := S 8 0) (m' := S 8 0 + 1) (fun j p q => ⟨(h.1.kal p q).2.2.2.2.1.2, by
      have := h.k27 p q
      omega⟩) 513 (S 31 i) r31.2]
  rw [sm_s hnm.1, h1, h2]
/-- what a calibration shows afterwards -/
theorem Sim.ka (h : Sim c n nc nm S T) (hc : c ≤ 511) {z x lf : Int} (hz : 0 ≤ z ∧ z < n) (hx : -99999 ≤ x ∧ x ≤ 99999) (hlf : -99999 ≤ lf ∧ lf ≤ 99999) (hfo : Jvm.Pilot.CCalibratoryLaw_law_r5981_98d5a5.fof (S 14) (Jvm.Pilot.CCalibratoryLaw_law_r5981_98d5a5.inF S) 12 (S 14 z) = -1) :
    ∃ T' : St, Sim (c + 1) n (nc + 1) nm (kaS S nc nm z x lf) T' ∧ ((∀ i, kaS S nc nm z x lf 11 i = S 11 i) ∧ (∀ i, kaS S nc nm z x lf 12 i = S 12 i) ∧ (∀ i, kaS S nc nm z x lf 14 i = S 14 i)) ∧
      kaS S nc nm z x lf 15 z = nc ∧ kaS S nc nm z x lf 7 0 = S 7 0 ∧ kaS S nc nm z x lf 21 nc = S 7 0 ∧ (kaS S nc nm z x lf 13 z = if 0 ≤ S 15 z then niv (S 11 z) (iabs x) (S 13 z) else S 13 z) ∧
      (kaS S nc nm z x lf 16 z = if fl S z x then S 16 z + 1 else S 16 z) ∧ kaS S nc nm z x lf 26 nc = 0 ∧ kaS S nc nm z x lf 22 nc = lf ∧ kaS S nc nm z x lf 6 0 = S 6 0 + kaR S nc nm z x lf ∧
      (kaR S nc nm z x lf = if fl S z x then sm (stk S (S 15 z)) nm.toNat else 0) ∧ sm (stk (kaS S nc nm z x lf) nc) nm.toNat = 0 := by
  obtain ⟨b, -, hB⟩ := rc_any (h.MI hc) z
  have h1 := (h.calibrate hc hz hx hlf hfo (b := b) (hB hz)).1
  obtain ⟨-, hnc, hnm, -⟩ := h.1.top
  obtain ⟨k1, k2, k3, k4, k5, k6, k7⟩ := kaS_c (S := S) (nc := nc) (nm := nm) (z := z) (x := x) (lf := lf)
  obtain ⟨a1, a2, a3, a4, a5, a6, a7, a8, a9, ⟨b20, b21, b22, b23, b24, b25, b26, b27, b28, b29⟩, a11, a12, a13, a14⟩ := KA_all (nc := nc) (nm := nm) (z := z) (x := x) (lf := lf) h.1 hz
  have g10 : ∀ g i, (g = 11 ∨ g = 12 ∨ g = 14) → kaS S nc nm z x lf g i = S g i := fun g i hg => (k1 g i (by omega) (by omega) (by omega) (by omega) (by omega)).trans (a2 g i (by omega))
  have g31 : ∀ i, kaS S nc nm z x lf 31 i = S 31 i := fun i => (k1 31 i (by decide) (by decide) (by decide) (by decide) (by decide)).trans (a2 31 i (by omega))
  refine ⟨_, h1, ⟨fun i => g10 11 i (by omega), fun i => g10 12 i (by omega), fun i => g10 14 i (by omega)⟩, k2, ?_, ?_, ?_, ?_, ?_, ?_, ?_, a14, ?_⟩
  · exact (k1 7 0 (by decide) (by decide) (by decide) (by decide) (by decide)).trans (a1 7 0 (by decide) (by decide))
  · exact (k1 21 nc (by decide) (by decide) (by decide) (by decide) (by decide)).trans b21
  · exact (k1 13 z (by decide) (by decide) (by decide) (by decide) (by decide)).trans a3
  · exact (k1 16 z (by decide) (by decide) (by decide) (by decide) (by decide)).trans a5
  · exact (k1 26 nc (by decide) (by decide) (by decide) (by decide) (by decide)).trans b26
  · exact (k1 22 nc (by decide) (by decide) (by decide) (by decide) (by decide)).trans b22
  · rw [k1 6 0 (by decide) (by decide) (by decide) (by decide) (by decide), a13, a14]
    by_cases cf : fl S z x
    · rw [if_pos cf, if_pos cf]
    · rw [if_neg cf, if_neg cf, Int.add_zero]
  · refine sm_z fun i p q => ?_
    unfold stk
    split
    · rw [g31]
      obtain ⟨-, r31, -⟩ := h.1.mea p (show i < nm by omega)
      exact rst_no (fun j u v => (h1.1.kal u (show j < nc + 1 by omega)).2.2.2.2.1.2) 513 (S 31 i) r31.2
    · rfl
/-- trusted with its reference, behind a calibration -/
theorem inF_ka {z : Int} {F : St} (h15 : 0 ≤ F 15 z) (hd : F 7 0 ≤ F 21 (F 15 z) + F 13 z) (h26 : F 26 (F 15 z) = 0) : inF F z ≠ 0 := by
  rw [inF, tf_t ⟨h15, hd, h26⟩]
  decide
theorem inF_n {z : Int} {F : St} (h15 : F 15 z < 0) : inF F z = 0 := tf_f fun q => by omega
theorem tl_at {t u v r : Int} {g : Nat} {j : Int} (h : g ≠ 3 ∧ (g < 10 ∨ 18 < g ∨ j ≠ n)) : tlS S n t u v r g j = S g j := by
  rw [tlS, up_f h.1]
  by_cases e : g = 14
  · subst e
    rw [up_i (by omega), nwI, if_neg (by omega)]
  · rw [up_f e, nwI, if_neg (by omega)]
theorem tl_new {t u v r : Int} : tlS S n t u v r 11 n = t ∧ tlS S n t u v r 12 n = u ∧ tlS S n t u v r 14 n = r ∧ tlS S n t u v r 15 n = -1 ∧ tlS S n t u v r 16 n = 0 ∧ tlS S n t u v r 3 0 = n + 1 := by
  refine ⟨?_, ?_, ?_, ?_, ?_, ?_⟩
  · rw [tlS, up_f (by decide), up_f (by decide), nwI, if_pos ⟨rfl, by decide, by decide⟩]; rfl
  · rw [tlS, up_f (by decide), up_f (by decide), nwI, if_pos ⟨rfl, by decide, by decide⟩]; rfl
  · rw [tlS, up_f (by decide), up_s]
  · rw [tlS, up_f (by decide), up_f (by decide), nwI, if_pos ⟨rfl, by decide, by decide⟩]; rfl
  · rw [tlS, up_f (by decide), up_f (by decide), nwI, if_pos ⟨rfl, by decide, by decide⟩]; rfl
  · rw [tlS, up_s]
/-- one that is not calibrated has no points -/
theorem Sim.sl_n (h : Sim c n nc nm S T) {z : Int} (hz : 0 ≤ z ∧ z < n) (hF : S 15 z < 0) : S 18 z = 0 := by
  obtain ⟨ow, hi, -⟩ := h.ow
  obtain ⟨-, -, -, -, -, -, h18⟩ := hi z hz.1 hz.2
  rw [h18]
  exact (sp_n (Or.inl hF)).2
theorem Sim.cbs (h : Sim c n nc nm S T) : S 6 0 = sm (S 32) nm.toNat ∧ sm (fun i => lrc S i (S 5 0).toNat) nm.toNat = S 6 0 ∧ 0 ≤ S 6 0 ∧ S 6 0 ≤ nm := by
  have h1 := h.top.2.2.2.2.2
  have hnm := h.1.top.2.2.1
  refine ⟨h1, h.cb.2, ?_⟩
  rw [h1]
  have e : sm (S 32) nm.toNat = sm (fun i => if 0 ≤ i ∧ i < nm then S 32 i else 0) nm.toNat := sm_cong fun i a b => (if_pos ⟨a, by omega⟩).symm
  rw [e]
  have hb : ∀ i : Int, 0 ≤ (if 0 ≤ i ∧ i < nm then S 32 i else 0) ∧ (if 0 ≤ i ∧ i < nm then S 32 i else 0) ≤ 1 := fun i => by
    split
    · next q => exact (h.1.mea q.1 q.2).2.2
    · decide
  have h2 := sm_b (f := fun i => if 0 ≤ i ∧ i < nm then S 32 i else 0) hb nm.toNat
  omega
end PUR
