/-! ===== the states: S of the class, T of the model; a number for each field and index; -1 is no reference ===== -/
abbrev St : Type := Nat → Int → Int
def up (S : St) (f : Nat) (i v : Int) : St := fun g j => if g = f then (if j = i then v else S g j) else S g j
theorem up_s {S : St} {f : Nat} {i v : Int} : up S f i v f i = v := by simp [up]
theorem up_f {S : St} {f g : Nat} {i j v : Int} (h : g ≠ f) : up S f i v g j = S g j := by simp [up, h]
theorem up_i {S : St} {f g : Nat} {i j v : Int} (h : j ≠ i) : up S f i v g j = S g j := by simp [up, h]
def pt (ad : Int → Nat) (v : Int) : Option Nat := if v < 0 then none else some (ad v)
theorem pt_n {ad : Int → Nat} {v : Int} (h : v < 0) : pt ad v = none := by simp [pt, h]
theorem pt_s {ad : Int → Nat} {v : Int} (h : 0 ≤ v) : pt ad v = some (ad v) := by simp [pt, Int.not_lt.mpr h]
theorem pt_none {ad : Int → Nat} {v : Int} (h : pt ad v = none) : v < 0 := by
  unfold pt at h
  split at h
  · assumption
  · cases h
theorem pt_some {ad : Int → Nat} {v : Int} {a : Nat} (h : pt ad v = some a) : 0 ≤ v ∧ a = ad v := by
  unfold pt at h
  split at h
  · cases h
  · exact ⟨by omega, (Option.some.inj h).symm⟩
/-- a row of the first c of something -/
def rw_ (ad : Int → Nat) (c : Int) : Nat → Option Nat := fun j => if (j : Int) < c then some (ad j) else none
theorem rw_in {ad : Int → Nat} {c i : Int} (h0 : 0 ≤ i) (h1 : i < c) : rw_ ad c i.toNat = some (ad i) := by
  unfold rw_
  rw [Int.toNat_of_nonneg h0, if_pos h1]
theorem rw_out {ad : Int → Nat} {c i : Int} (h0 : 0 ≤ i) (h1 : c ≤ i) : rw_ ad c i.toNat = none := by
  unfold rw_
  rw [Int.toNat_of_nonneg h0, if_neg (by omega)]
theorem rw_pt {ad : Int → Nat} {c i : Int} (h0 : 0 ≤ i) : rw_ ad c i.toNat = pt ad (if i < c then i else -1) := by
  by_cases h : i < c
  · rw [rw_in h0 h, if_pos h, pt_s h0]
  · rw [rw_out h0 (by omega), if_neg h, pt_n (by omega)]
theorem rw_add {ad : Int → Nat} {c : Int} (h0 : 0 ≤ c) : va_up (rw_ ad c) c.toNat (some (ad c)) = rw_ ad (c + 1) := by
  funext j
  unfold va_up rw_
  by_cases h : j = c.toNat
  · subst h
    rw [if_pos rfl, Int.toNat_of_nonneg h0, if_pos (by omega)]
  · rw [if_neg h]
    by_cases h2 : (j : Int) < c
    · rw [if_pos h2, if_pos (by omega)]
    · rw [if_neg h2, if_neg (by omega)]
theorem rw_cong {ad ad' : Int → Nat} {c : Int} (h : ∀ i, 0 ≤ i → i < c → ad' i = ad i) : rw_ ad' c = rw_ ad c := by
  funext j
  unfold rw_
  by_cases h2 : (j : Int) < c
  · rw [if_pos h2, if_pos h2, h _ (by omega) h2]
  · rw [if_neg h2, if_neg h2]
abbrev cKal (ad : Nat → Int → Nat) (S : St) (j : Int) : va_E := .inr (0, [.int (iI (S 20 j)), .int (iI (S 21 j)), .int (iI (S 22 j)), va_rf (pt (ad 2) (S 23 j)), va_rf (pt (ad 2) (S 24 j)), .int (iI (S 25 j)), .int (iI (S 26 j)), .int (iI (S 27 j)), .int (iI (S 28 j)), .int (iI (S 29 j))])
abbrev cIns (ad : Nat → Int → Nat) (S : St) (j : Int) : va_E := .inr (1, [.int (iI (S 10 j)), .int (iI (S 11 j)), .int (iI (S 12 j)), .int (iI (S 13 j)), va_rf (pt (ad 1) (S 14 j)), va_rf (pt (ad 2) (S 15 j)), .int (iI (S 16 j)), .long (iL (S 17 j)), .long (iL (S 18 j))])
abbrev cMea (ad : Nat → Int → Nat) (S : St) (j : Int) : va_E := .inr (2, [.int (iI (S 30 j)), va_rf (pt (ad 2) (S 31 j)), .int (iI (S 32 j))])
abbrev cCal (ad : Nat → Int → Nat) (S : St) (_ : Int) : va_E := .inr (3, [.ref (ad 0 1), .ref (ad 0 2), .ref (ad 0 3), .int (iI (S 3 0)), .int (iI (S 4 0)), .int (iI (S 5 0)), .int (iI (S 6 0)), .int (iI (S 7 0)), .int (iI (S 8 0))])
abbrev eRow (cA : ClassId) (N : Nat) (f : Nat → Option Nat) : va_E := .inl (cA, N, .inr (.inr (.inr (.inr f))))
abbrev eInt (cA : ClassId) (N : Nat) (f : Nat → Int32) : va_E := .inl (cA, N, .inl f)
/-- whose a cell is: 0 the class's, 1 the model's, 2 the law's -/
def kd : va_E → Nat
  | .inr (4, _) => 1
  | .inr (_, _) => 0
  | .inl (_, _, .inl _) => 1
  | .inl (_, _, .inr (.inr (.inr (.inr _)))) => 0
  | .inl _ => 2
/-- all cells but those of c stay -/
def Fr (c : Nat) (w w' : Wd) : Prop := ∀ (q : Nat) (e : va_E), w q = some e → kd e ≠ c → w' q = some e
theorem Fr.rf {c : Nat} {w : Wd} : Fr c w w := fun _ _ h _ => h
theorem Fr.tr {c : Nat} {w w1 w2 : Wd} (h1 : Fr c w w1) (h2 : Fr c w1 w2) : Fr c w w2 := fun q e h hk => h2 q e (h1 q e h hk) hk
theorem Fr.set {c : Nat} {w : Wd} {a : Nat} {e e' : va_E} (h : w a = some e) (hk : kd e = c) : Fr c w (wu w a e') := by
  intro q e1 hq hk1
  by_cases hqa : q = a
  · subst hqa
    rw [h] at hq
    cases hq
    exact absurd hk hk1
  · rw [wu_n hqa]; exact hq
theorem Fr.new {c : Nat} {w : Wd} {a : Nat} {e' : va_E} (h : w a = none) : Fr c w (wu w a e') := by
  intro q e1 hq hk1
  by_cases hqa : q = a
  · subst hqa
    rw [h] at hq
    cases hq
  · rw [wu_n hqa]; exact hq
/-- the class's cells: n instruments, nc calibrations, nm measurements, the three rows -/
def CW (base : Nat) (ca : Nat → ClassId) (ad : Nat → Int → Nat) (n nc nm : Int) (S : St) (w : Wd) : Prop :=
  (w (ad 0 0) = some (cCal ad S 0) ∧ w (ad 0 1) = some (eRow (ca 2) 12 (rw_ (ad 1) (S 3 0))) ∧ w (ad 0 2) = some (eRow (ca 3) 200 (rw_ (ad 3) (S 4 0))) ∧ w (ad 0 3) = some (eRow (ca 4) 512 (rw_ (ad 2) (S 5 0)))) ∧
  (base ≤ ad 0 0 ∧ base ≤ ad 0 1 ∧ base ≤ ad 0 2 ∧ base ≤ ad 0 3) ∧
  (∀ i, 0 ≤ i → i < n → base ≤ ad 1 i ∧ w (ad 1 i) = some (cIns ad S i)) ∧ (∀ i, 0 ≤ i → i < nc → base ≤ ad 2 i ∧ w (ad 2 i) = some (cKal ad S i)) ∧ (∀ i, 0 ≤ i → i < nm → base ≤ ad 3 i ∧ w (ad 3 i) = some (cMea ad S i)) ∧
  (∀ i j, 0 ≤ i → i < n → 0 ≤ j → j < n → ad 1 i = ad 1 j → i = j) ∧ (∀ i j, 0 ≤ i → i < nc → 0 ≤ j → j < nc → ad 2 i = ad 2 j → i = j) ∧ (∀ i j, 0 ≤ i → i < nm → 0 ≤ j → j < nm → ad 3 i = ad 3 j → i = j)
section CWS
variable {base : Nat} {ca : Nat → ClassId} {ad : Nat → Int → Nat} {n nc nm : Int} {S : St} {w : Wd}
theorem CW.cal (h : CW base ca ad n nc nm S w) : w (ad 0 0) = some (cCal ad S 0) := h.1.1
theorem CW.told (h : CW base ca ad n nc nm S w) : w (ad 0 1) = some (eRow (ca 2) 12 (rw_ (ad 1) (S 3 0))) := h.1.2.1
theorem CW.made (h : CW base ca ad n nc nm S w) : w (ad 0 2) = some (eRow (ca 3) 200 (rw_ (ad 3) (S 4 0))) := h.1.2.2.1
theorem CW.log (h : CW base ca ad n nc nm S w) : w (ad 0 3) = some (eRow (ca 4) 512 (rw_ (ad 2) (S 5 0))) := h.1.2.2.2
theorem CW.ins (h : CW base ca ad n nc nm S w) {i : Int} (h0 : 0 ≤ i) (h1 : i < n) : w (ad 1 i) = some (cIns ad S i) := (h.2.2.1 i h0 h1).2
theorem CW.kal (h : CW base ca ad n nc nm S w) {i : Int} (h0 : 0 ≤ i) (h1 : i < nc) : w (ad 2 i) = some (cKal ad S i) := (h.2.2.2.1 i h0 h1).2
theorem CW.mea (h : CW base ca ad n nc nm S w) {i : Int} (h0 : 0 ≤ i) (h1 : i < nm) : w (ad 3 i) = some (cMea ad S i) := (h.2.2.2.2.1 i h0 h1).2
theorem CW.inj1 (h : CW base ca ad n nc nm S w) {i j : Int} (h0 : 0 ≤ i) (h1 : i < n) (h2 : 0 ≤ j) (h3 : j < n) (e : ad 1 i = ad 1 j) : i = j := h.2.2.2.2.2.1 i j h0 h1 h2 h3 e
theorem CW.inj2 (h : CW base ca ad n nc nm S w) {i j : Int} (h0 : 0 ≤ i) (h1 : i < nc) (h2 : 0 ≤ j) (h3 : j < nc) (e : ad 2 i = ad 2 j) : i = j := h.2.2.2.2.2.2.1 i j h0 h1 h2 h3 e
theorem CW.inj3 (h : CW base ca ad n nc nm S w) {i j : Int} (h0 : 0 ≤ i) (h1 : i < nm) (h2 : 0 ≤ j) (h3 : j < nm) (e : ad 3 i = ad 3 j) : i = j := h.2.2.2.2.2.2.2 i j h0 h1 h2 h3 e
theorem CW.b0 (h : CW base ca ad n nc nm S w) : base ≤ ad 0 0 := h.2.1.1
theorem CW.b1 (h : CW base ca ad n nc nm S w) {i : Int} (h0 : 0 ≤ i) (h1 : i < n) : base ≤ ad 1 i := (h.2.2.1 i h0 h1).1
theorem CW.b2 (h : CW base ca ad n nc nm S w) {i : Int} (h0 : 0 ≤ i) (h1 : i < nc) : base ≤ ad 2 i := (h.2.2.2.1 i h0 h1).1
theorem CW.b3 (h : CW base ca ad n nc nm S w) {i : Int} (h0 : 0 ≤ i) (h1 : i < nm) : base ≤ ad 3 i := (h.2.2.2.2.1 i h0 h1).1
/-- the class's cells stay where others write -/
theorem CW.fr {c : Nat} {w' : Wd} (h : CW base ca ad n nc nm S w) (hc : c ≠ 0) (hF : Fr c w w') : CW base ca ad n nc nm S w' := by
  obtain ⟨⟨h1, h2, h3, h4⟩, h5, h6, h7, h8, h9⟩ := h
  exact ⟨⟨hF _ _ h1 hc.symm, hF _ _ h2 hc.symm, hF _ _ h3 hc.symm, hF _ _ h4 hc.symm⟩, h5, fun i a b => ⟨(h6 i a b).1, hF _ _ (h6 i a b).2 hc.symm⟩, fun i a b => ⟨(h7 i a b).1, hF _ _ (h7 i a b).2 hc.symm⟩, fun i a b => ⟨(h8 i a b).1, hF _ _ (h8 i a b).2 hc.symm⟩, h9⟩
/-- fewer of each -/
theorem CW.less {n' nc' nm' : Int} (h : CW base ca ad n nc nm S w) (h1 : n' ≤ n) (h2 : nc' ≤ nc) (h3 : nm' ≤ nm) : CW base ca ad n' nc' nm' S w := by
  obtain ⟨g1, g2, g3, g4, g5, g6, g7, g8⟩ := h
  exact ⟨g1, g2, fun i a b => g3 i a (by omega), fun i a b => g4 i a (by omega), fun i a b => g5 i a (by omega), fun i j a b c d => g6 i j a (by omega) c (by omega), fun i j a b c d => g7 i j a (by omega) c (by omega), fun i j a b c d => g8 i j a (by omega) c (by omega)⟩
theorem CW.put_ (S' : St) {a : Nat} {e e' : va_E} (h : CW base ca ad n nc nm S w) (he : w a = some e) (hA : w (ad 0 0) = some (cCal ad S 0) → wu w a e' (ad 0 0) = some (cCal ad S' 0))
    (hr : S' 3 0 = S 3 0 ∧ S' 4 0 = S 4 0 ∧ S' 5 0 = S 5 0) (hk : ∀ f, e ≠ eRow (ca 2) 12 f ∧ e ≠ eRow (ca 3) 200 f ∧ e ≠ eRow (ca 4) 512 f)
    (h1 : ∀ i, 0 ≤ i → i < n → wu w a e' (ad 1 i) = some (cIns ad S' i)) (h2 : ∀ i, 0 ≤ i → i < nc → wu w a e' (ad 2 i) = some (cKal ad S' i)) (h3 : ∀ i, 0 ≤ i → i < nm → wu w a e' (ad 3 i) = some (cMea ad S' i)) : CW base ca ad n nc nm S' (wu w a e') := by
  obtain ⟨⟨g1, g2, g3, g4⟩, g5, g6, g7, g8, g9⟩ := h
  obtain ⟨r1, r2, r3⟩ := hr
  refine ⟨⟨hA g1, ?_, ?_, ?_⟩, g5, fun i a b => ⟨(g6 i a b).1, h1 i a b⟩, fun i a b => ⟨(g7 i a b).1, h2 i a b⟩, fun i a b => ⟨(g8 i a b).1, h3 i a b⟩, g9⟩
  · rw [wu_n (fun z => by rw [z, he] at g2; exact (hk _).1 (Option.some.inj g2)), r1]; exact g2
  · rw [wu_n (fun z => by rw [z, he] at g3; exact (hk _).2.1 (Option.some.inj g3)), r2]; exact g3
  · rw [wu_n (fun z => by rw [z, he] at g4; exact (hk _).2.2 (Option.some.inj g4)), r3]; exact g4
theorem ne_of_cell {w : Wd} {a b : Nat} {e e' : va_E} (h : w a = some e) (h' : w b = some e') (hne : e ≠ e') : a ≠ b := fun z => by
  rw [z, h'] at h
  exact hne (Option.some.inj h).symm
theorem CW.put10 (h : CW base ca ad n nc nm S w) {i : Int} (h0 : 0 ≤ i) (h1 : i < n) (v : Int) : CW base ca ad n nc nm (up S 10 i v) (wu w (ad 1 i) (.inr (1, (match cIns ad S i with | .inr (_, l) => l | _ => []).set 0 (.int (iI v))))) := by
  refine CW.put_ (up S 10 i v) h (h.ins h0 h1) (fun g => ?_) ⟨up_f (by decide), up_f (by decide), up_f (by decide)⟩ (fun f => ⟨(fun z => by cases z), (fun z => by cases z), (fun z => by cases z)⟩) ?_ ?_ ?_
  · rw [wu_n (ne_of_cell g (h.ins h0 h1) (fun z => by cases z)), g]; rfl
  · intro j a b
    by_cases hj : j = i
    · subst hj
      rw [wu_s]
      simp [cIns, up]
    · rw [wu_n (fun z => hj (h.inj1 a b h0 h1 z)), h.ins a b]
      simp [cIns, up, hj]
  · intro j a b
    rw [wu_n (ne_of_cell (h.kal a b) (h.ins h0 h1) (fun z => by cases z)), h.kal a b]
    rfl
  · intro j a b
    rw [wu_n (ne_of_cell (h.mea a b) (h.ins h0 h1) (fun z => by cases z)), h.mea a b]
    rfl
theorem CW.put11 (h : CW base ca ad n nc nm S w) {i : Int} (h0 : 0 ≤ i) (h1 : i < n) (v : Int) : CW base ca ad n nc nm (up S 11 i v) (wu w (ad 1 i) (.inr (1, (match cIns ad S i with | .inr (_, l) => l | _ => []).set 1 (.int (iI v))))) := by
  refine CW.put_ (up S 11 i v) h (h.ins h0 h1) (fun g => ?_) ⟨up_f (by decide), up_f (by decide), up_f (by decide)⟩ (fun f => ⟨(fun z => by cases z), (fun z => by cases z), (fun z => by cases z)⟩) ?_ ?_ ?_
  · rw [wu_n (ne_of_cell g (h.ins h0 h1) (fun z => by cases z)), g]; rfl
  · intro j a b
    by_cases hj : j = i
    · subst hj
      rw [wu_s]
      simp [cIns, up]
    · rw [wu_n (fun z => hj (h.inj1 a b h0 h1 z)), h.ins a b]
      simp [cIns, up, hj]
  · intro j a b
    rw [wu_n (ne_of_cell (h.kal a b) (h.ins h0 h1) (fun z => by cases z)), h.kal a b]
    rfl
  · intro j a b
    rw [wu_n (ne_of_cell (h.mea a b) (h.ins h0 h1) (fun z => by cases z)), h.mea a b]
    rfl
theorem CW.put12 (h : CW base ca ad n nc nm S w) {i : Int} (h0 : 0 ≤ i) (h1 : i < n) (v : Int) : CW base ca ad n nc nm (up S 12 i v) (wu w (ad 1 i) (.inr (1, (match cIns ad S i with | .inr (_, l) => l | _ => []).set 2 (.int (iI v))))) := by
  refine CW.put_ (up S 12 i v) h (h.ins h0 h1) (fun g => ?_) ⟨up_f (by decide), up_f (by decide), up_f (by decide)⟩ (fun f => ⟨(fun z => by cases z), (fun z => by cases z), (fun z => by cases z)⟩) ?_ ?_ ?_
  · rw [wu_n (ne_of_cell g (h.ins h0 h1) (fun z => by cases z)), g]; rfl
  · intro j a b
    by_cases hj : j = i
    · subst hj
      rw [wu_s]
      simp [cIns, up]
    · rw [wu_n (fun z => hj (h.inj1 a b h0 h1 z)), h.ins a b]
      simp [cIns, up, hj]
  · intro j a b
    rw [wu_n (ne_of_cell (h.kal a b) (h.ins h0 h1) (fun z => by cases z)), h.kal a b]
    rfl
  · intro j a b
    rw [wu_n (ne_of_cell (h.mea a b) (h.ins h0 h1) (fun z => by cases z)), h.mea a b]
    rfl
theorem CW.put13 (h : CW base ca ad n nc nm S w) {i : Int} (h0 : 0 ≤ i) (h1 : i < n) (v : Int) : CW base ca ad n nc nm (up S 13 i v) (wu w (ad 1 i) (.inr (1, (match cIns ad S i with | .inr (_, l) => l | _ => []).set 3 (.int (iI v))))) := by
  refine CW.put_ (up S 13 i v) h (h.ins h0 h1) (fun g => ?_) ⟨up_f (by decide), up_f (by decide), up_f (by decide)⟩ (fun f => ⟨(fun z => by cases z), (fun z => by cases z), (fun z => by cases z)⟩) ?_ ?_ ?_
  · rw [wu_n (ne_of_cell g (h.ins h0 h1) (fun z => by cases z)), g]; rfl
  · intro j a b
    by_cases hj : j = i
    · subst hj
      rw [wu_s]
      simp [cIns, up]
    · rw [wu_n (fun z => hj (h.inj1 a b h0 h1 z)), h.ins a b]
      simp [cIns, up, hj]
  · intro j a b
    rw [wu_n (ne_of_cell (h.kal a b) (h.ins h0 h1) (fun z => by cases z)), h.kal a b]
    rfl
  · intro j a b
    rw [wu_n (ne_of_cell (h.mea a b) (h.ins h0 h1) (fun z => by cases z)), h.mea a b]
    rfl
theorem CW.put14 (h : CW base ca ad n nc nm S w) {i : Int} (h0 : 0 ≤ i) (h1 : i < n) (v : Int) : CW base ca ad n nc nm (up S 14 i v) (wu w (ad 1 i) (.inr (1, (match cIns ad S i with | .inr (_, l) => l | _ => []).set 4 (va_rf (pt (ad 1) v))))) := by
  refine CW.put_ (up S 14 i v) h (h.ins h0 h1) (fun g => ?_) ⟨up_f (by decide), up_f (by decide), up_f (by decide)⟩ (fun f => ⟨(fun z => by cases z), (fun z => by cases z), (fun z => by cases z)⟩) ?_ ?_ ?_
  · rw [wu_n (ne_of_cell g (h.ins h0 h1) (fun z => by cases z)), g]; rfl
  · intro j a b
    by_cases hj : j = i
    · subst hj
      rw [wu_s]
      simp [cIns, up]
    · rw [wu_n (fun z => hj (h.inj1 a b h0 h1 z)), h.ins a b]
      simp [cIns, up, hj]
  · intro j a b
    rw [wu_n (ne_of_cell (h.kal a b) (h.ins h0 h1) (fun z => by cases z)), h.kal a b]
    rfl
  · intro j a b
    rw [wu_n (ne_of_cell (h.mea a b) (h.ins h0 h1) (fun z => by cases z)), h.mea a b]
    rfl
theorem CW.put15 (h : CW base ca ad n nc nm S w) {i : Int} (h0 : 0 ≤ i) (h1 : i < n) (v : Int) : CW base ca ad n nc nm (up S 15 i v) (wu w (ad 1 i) (.inr (1, (match cIns ad S i with | .inr (_, l) => l | _ => []).set 5 (va_rf (pt (ad 2) v))))) := by
  refine CW.put_ (up S 15 i v) h (h.ins h0 h1) (fun g => ?_) ⟨up_f (by decide), up_f (by decide), up_f (by decide)⟩ (fun f => ⟨(fun z => by cases z), (fun z => by cases z), (fun z => by cases z)⟩) ?_ ?_ ?_
  · rw [wu_n (ne_of_cell g (h.ins h0 h1) (fun z => by cases z)), g]; rfl
  · intro j a b
    by_cases hj : j = i
    · subst hj
      rw [wu_s]
      simp [cIns, up]
    · rw [wu_n (fun z => hj (h.inj1 a b h0 h1 z)), h.ins a b]
      simp [cIns, up, hj]
  · intro j a b
    rw [wu_n (ne_of_cell (h.kal a b) (h.ins h0 h1) (fun z => by cases z)), h.kal a b]
    rfl
  · intro j a b
    rw [wu_n (ne_of_cell (h.mea a b) (h.ins h0 h1) (fun z => by cases z)), h.mea a b]
    rfl
theorem CW.put16 (h : CW base ca ad n nc nm S w) {i : Int} (h0 : 0 ≤ i) (h1 : i < n) (v : Int) : CW base ca ad n nc nm (up S 16 i v) (wu w (ad 1 i) (.inr (1, (match cIns ad S i with | .inr (_, l) => l | _ => []).set 6 (.int (iI v))))) := by
  refine CW.put_ (up S 16 i v) h (h.ins h0 h1) (fun g => ?_) ⟨up_f (by decide), up_f (by decide), up_f (by decide)⟩ (fun f => ⟨(fun z => by cases z), (fun z => by cases z), (fun z => by cases z)⟩) ?_ ?_ ?_
  · rw [wu_n (ne_of_cell g (h.ins h0 h1) (fun z => by cases z)), g]; rfl
  · intro j a b
    by_cases hj : j = i
    · subst hj
      rw [wu_s]
      simp [cIns, up]
    · rw [wu_n (fun z => hj (h.inj1 a b h0 h1 z)), h.ins a b]
      simp [cIns, up, hj]
  · intro j a b
    rw [wu_n (ne_of_cell (h.kal a b) (h.ins h0 h1) (fun z => by cases z)), h.kal a b]
    rfl
  · intro j a b
    rw [wu_n (ne_of_cell (h.mea a b) (h.ins h0 h1) (fun z => by cases z)), h.mea a b]
    rfl
theorem CW.put17 (h : CW base ca ad n nc nm S w) {i : Int} (h0 : 0 ≤ i) (h1 : i < n) (v : Int) : CW base ca ad n nc nm (up S 17 i v) (wu w (ad 1 i) (.inr (1, (match cIns ad S i with | .inr (_, l) => l | _ => []).set 7 (.long (iL v))))) := by
  refine CW.put_ (up S 17 i v) h (h.ins h0 h1) (fun g => ?_) ⟨up_f (by decide), up_f (by decide), up_f (by decide)⟩ (fun f => ⟨(fun z => by cases z), (fun z => by cases z), (fun z => by cases z)⟩) ?_ ?_ ?_
  · rw [wu_n (ne_of_cell g (h.ins h0 h1) (fun z => by cases z)), g]; rfl
  · intro j a b
    by_cases hj : j = i
    · subst hj
      rw [wu_s]
      simp [cIns, up]
    · rw [wu_n (fun z => hj (h.inj1 a b h0 h1 z)), h.ins a b]
      simp [cIns, up, hj]
  · intro j a b
    rw [wu_n (ne_of_cell (h.kal a b) (h.ins h0 h1) (fun z => by cases z)), h.kal a b]
    rfl
  · intro j a b
    rw [wu_n (ne_of_cell (h.mea a b) (h.ins h0 h1) (fun z => by cases z)), h.mea a b]
    rfl
theorem CW.put18 (h : CW base ca ad n nc nm S w) {i : Int} (h0 : 0 ≤ i) (h1 : i < n) (v : Int) : CW base ca ad n nc nm (up S 18 i v) (wu w (ad 1 i) (.inr (1, (match cIns ad S i with | .inr (_, l) => l | _ => []).set 8 (.long (iL v))))) := by
  refine CW.put_ (up S 18 i v) h (h.ins h0 h1) (fun g => ?_) ⟨up_f (by decide), up_f (by decide), up_f (by decide)⟩ (fun f => ⟨(fun z => by cases z), (fun z => by cases z), (fun z => by cases z)⟩) ?_ ?_ ?_
  · rw [wu_n (ne_of_cell g (h.ins h0 h1) (fun z => by cases z)), g]; rfl
  · intro j a b
    by_cases hj : j = i
    · subst hj
      rw [wu_s]
      simp [cIns, up]
    · rw [wu_n (fun z => hj (h.inj1 a b h0 h1 z)), h.ins a b]
      simp [cIns, up, hj]
  · intro j a b
    rw [wu_n (ne_of_cell (h.kal a b) (h.ins h0 h1) (fun z => by cases z)), h.kal a b]
    rfl
  · intro j a b
    rw [wu_n (ne_of_cell (h.mea a b) (h.ins h0 h1) (fun z => by cases z)), h.mea a b]
    rfl
theorem CW.put20 (h : CW base ca ad n nc nm S w) {i : Int} (h0 : 0 ≤ i) (h1 : i < nc) (v : Int) : CW base ca ad n nc nm (up S 20 i v) (wu w (ad 2 i) (.inr (0, (match cKal ad S i with | .inr (_, l) => l | _ => []).set 0 (.int (iI v))))) := by
  refine CW.put_ (up S 20 i v) h (h.kal h0 h1) (fun g => ?_) ⟨up_f (by decide), up_f (by decide), up_f (by decide)⟩ (fun f => ⟨(fun z => by cases z), (fun z => by cases z), (fun z => by cases z)⟩) ?_ ?_ ?_
  · rw [wu_n (ne_of_cell g (h.kal h0 h1) (fun z => by cases z)), g]; rfl
  · intro j a b
    rw [wu_n (ne_of_cell (h.ins a b) (h.kal h0 h1) (fun z => by cases z)), h.ins a b]
    rfl
  · intro j a b
    by_cases hj : j = i
    · subst hj
      rw [wu_s]
      simp [cKal, up]
    · rw [wu_n (fun z => hj (h.inj2 a b h0 h1 z)), h.kal a b]
      simp [cKal, up, hj]
  · intro j a b
    rw [wu_n (ne_of_cell (h.mea a b) (h.kal h0 h1) (fun z => by cases z)), h.mea a b]
    rfl
theorem CW.put21 (h : CW base ca ad n nc nm S w) {i : Int} (h0 : 0 ≤ i) (h1 : i < nc) (v : Int) : CW base ca ad n nc nm (up S 21 i v) (wu w (ad 2 i) (.inr (0, (match cKal ad S i with | .inr (_, l) => l | _ => []).set 1 (.int (iI v))))) := by
  refine CW.put_ (up S 21 i v) h (h.kal h0 h1) (fun g => ?_) ⟨up_f (by decide), up_f (by decide), up_f (by decide)⟩ (fun f => ⟨(fun z => by cases z), (fun z => by cases z), (fun z => by cases z)⟩) ?_ ?_ ?_
  · rw [wu_n (ne_of_cell g (h.kal h0 h1) (fun z => by cases z)), g]; rfl
  · intro j a b
    rw [wu_n (ne_of_cell (h.ins a b) (h.kal h0 h1) (fun z => by cases z)), h.ins a b]
    rfl
  · intro j a b
    by_cases hj : j = i
    · subst hj
      rw [wu_s]
      simp [cKal, up]
    · rw [wu_n (fun z => hj (h.inj2 a b h0 h1 z)), h.kal a b]
      simp [cKal, up, hj]
  · intro j a b
    rw [wu_n (ne_of_cell (h.mea a b) (h.kal h0 h1) (fun z => by cases z)), h.mea a b]
    rfl
theorem CW.put22 (h : CW base ca ad n nc nm S w) {i : Int} (h0 : 0 ≤ i) (h1 : i < nc) (v : Int) : CW base ca ad n nc nm (up S 22 i v) (wu w (ad 2 i) (.inr (0, (match cKal ad S i with | .inr (_, l) => l | _ => []).set 2 (.int (iI v))))) := by
  refine CW.put_ (up S 22 i v) h (h.kal h0 h1) (fun g => ?_) ⟨up_f (by decide), up_f (by decide), up_f (by decide)⟩ (fun f => ⟨(fun z => by cases z), (fun z => by cases z), (fun z => by cases z)⟩) ?_ ?_ ?_
  · rw [wu_n (ne_of_cell g (h.kal h0 h1) (fun z => by cases z)), g]; rfl
  · intro j a b
    rw [wu_n (ne_of_cell (h.ins a b) (h.kal h0 h1) (fun z => by cases z)), h.ins a b]
    rfl
  · intro j a b
    by_cases hj : j = i
    · subst hj
      rw [wu_s]
      simp [cKal, up]
    · rw [wu_n (fun z => hj (h.inj2 a b h0 h1 z)), h.kal a b]
      simp [cKal, up, hj]
  · intro j a b
    rw [wu_n (ne_of_cell (h.mea a b) (h.kal h0 h1) (fun z => by cases z)), h.mea a b]
    rfl
theorem CW.put23 (h : CW base ca ad n nc nm S w) {i : Int} (h0 : 0 ≤ i) (h1 : i < nc) (v : Int) : CW base ca ad n nc nm (up S 23 i v) (wu w (ad 2 i) (.inr (0, (match cKal ad S i with | .inr (_, l) => l | _ => []).set 3 (va_rf (pt (ad 2) v))))) := by
  refine CW.put_ (up S 23 i v) h (h.kal h0 h1) (fun g => ?_) ⟨up_f (by decide), up_f (by decide), up_f (by decide)⟩ (fun f => ⟨(fun z => by cases z), (fun z => by cases z), (fun z => by cases z)⟩) ?_ ?_ ?_
  · rw [wu_n (ne_of_cell g (h.kal h0 h1) (fun z => by cases z)), g]; rfl
  · intro j a b
    rw [wu_n (ne_of_cell (h.ins a b) (h.kal h0 h1) (fun z => by cases z)), h.ins a b]
    rfl
  · intro j a b
    by_cases hj : j = i
    · subst hj
      rw [wu_s]
      simp [cKal, up]
    · rw [wu_n (fun z => hj (h.inj2 a b h0 h1 z)), h.kal a b]
      simp [cKal, up, hj]
  · intro j a b
    rw [wu_n (ne_of_cell (h.mea a b) (h.kal h0 h1) (fun z => by cases z)), h.mea a b]
    rfl
theorem CW.put24 (h : CW base ca ad n nc nm S w) {i : Int} (h0 : 0 ≤ i) (h1 : i < nc) (v : Int) : CW base ca ad n nc nm (up S 24 i v) (wu w (ad 2 i) (.inr (0, (match cKal ad S i with | .inr (_, l) => l | _ => []).set 4 (va_rf (pt (ad 2) v))))) := by
  refine CW.put_ (up S 24 i v) h (h.kal h0 h1) (fun g => ?_) ⟨up_f (by decide), up_f (by decide), up_f (by decide)⟩ (fun f => ⟨(fun z => by cases z), (fun z => by cases z), (fun z => by cases z)⟩) ?_ ?_ ?_
  · rw [wu_n (ne_of_cell g (h.kal h0 h1) (fun z => by cases z)), g]; rfl
  · intro j a b
    rw [wu_n (ne_of_cell (h.ins a b) (h.kal h0 h1) (fun z => by cases z)), h.ins a b]
    rfl
  · intro j a b
    by_cases hj : j = i
    · subst hj
      rw [wu_s]
      simp [cKal, up]
    · rw [wu_n (fun z => hj (h.inj2 a b h0 h1 z)), h.kal a b]
      simp [cKal, up, hj]
  · intro j a b
    rw [wu_n (ne_of_cell (h.mea a b) (h.kal h0 h1) (fun z => by cases z)), h.mea a b]
    rfl
theorem CW.put25 (h : CW base ca ad n nc nm S w) {i : Int} (h0 : 0 ≤ i) (h1 : i < nc) (v : Int) : CW base ca ad n nc nm (up S 25 i v) (wu w (ad 2 i) (.inr (0, (match cKal ad S i with | .inr (_, l) => l | _ => []).set 5 (.int (iI v))))) := by
  refine CW.put_ (up S 25 i v) h (h.kal h0 h1) (fun g => ?_) ⟨up_f (by decide), up_f (by decide), up_f (by decide)⟩ (fun f => ⟨(fun z => by cases z), (fun z => by cases z), (fun z => by cases z)⟩) ?_ ?_ ?_
  · rw [wu_n (ne_of_cell g (h.kal h0 h1) (fun z => by cases z)), g]; rfl
  · intro j a b
    rw [wu_n (ne_of_cell (h.ins a b) (h.kal h0 h1) (fun z => by cases z)), h.ins a b]
    rfl
  · intro j a b
    by_cases hj : j = i
    · subst hj
      rw [wu_s]
      simp [cKal, up]
    · rw [wu_n (fun z => hj (h.inj2 a b h0 h1 z)), h.kal a b]
      simp [cKal, up, hj]
  · intro j a b
    rw [wu_n (ne_of_cell (h.mea a b) (h.kal h0 h1) (fun z => by cases z)), h.mea a b]
    rfl
theorem CW.put26 (h : CW base ca ad n nc nm S w) {i : Int} (h0 : 0 ≤ i) (h1 : i < nc) (v : Int) : CW base ca ad n nc nm (up S 26 i v) (wu w (ad 2 i) (.inr (0, (match cKal ad S i with | .inr (_, l) => l | _ => []).set 6 (.int (iI v))))) := by
  refine CW.put_ (up S 26 i v) h (h.kal h0 h1) (fun g => ?_) ⟨up_f (by decide), up_f (by decide), up_f (by decide)⟩ (fun f => ⟨(fun z => by cases z), (fun z => by cases z), (fun z => by cases z)⟩) ?_ ?_ ?_
  · rw [wu_n (ne_of_cell g (h.kal h0 h1) (fun z => by cases z)), g]; rfl
  · intro j a b
    rw [wu_n (ne_of_cell (h.ins a b) (h.kal h0 h1) (fun z => by cases z)), h.ins a b]
    rfl
  · intro j a b
    by_cases hj : j = i
    · subst hj
      rw [wu_s]
      simp [cKal, up]
    · rw [wu_n (fun z => hj (h.inj2 a b h0 h1 z)), h.kal a b]
      simp [cKal, up, hj]
  · intro j a b
    rw [wu_n (ne_of_cell (h.mea a b) (h.kal h0 h1) (fun z => by cases z)), h.mea a b]
    rfl
theorem CW.put27 (h : CW base ca ad n nc nm S w) {i : Int} (h0 : 0 ≤ i) (h1 : i < nc) (v : Int) : CW base ca ad n nc nm (up S 27 i v) (wu w (ad 2 i) (.inr (0, (match cKal ad S i with | .inr (_, l) => l | _ => []).set 7 (.int (iI v))))) := by
  refine CW.put_ (up S 27 i v) h (h.kal h0 h1) (fun g => ?_) ⟨up_f (by decide), up_f (by decide), up_f (by decide)⟩ (fun f => ⟨(fun z => by cases z), (fun z => by cases z), (fun z => by cases z)⟩) ?_ ?_ ?_
  · rw [wu_n (ne_of_cell g (h.kal h0 h1) (fun z => by cases z)), g]; rfl
  · intro j a b
    rw [wu_n (ne_of_cell (h.ins a b) (h.kal h0 h1) (fun z => by cases z)), h.ins a b]
    rfl
  · intro j a b
    by_cases hj : j = i
    · subst hj
      rw [wu_s]
      simp [cKal, up]
    · rw [wu_n (fun z => hj (h.inj2 a b h0 h1 z)), h.kal a b]
      simp [cKal, up, hj]
  · intro j a b
    rw [wu_n (ne_of_cell (h.mea a b) (h.kal h0 h1) (fun z => by cases z)), h.mea a b]
    rfl
theorem CW.put28 (h : CW base ca ad n nc nm S w) {i : Int} (h0 : 0 ≤ i) (h1 : i < nc) (v : Int) : CW base ca ad n nc nm (up S 28 i v) (wu w (ad 2 i) (.inr (0, (match cKal ad S i with | .inr (_, l) => l | _ => []).set 8 (.int (iI v))))) := by
  refine CW.put_ (up S 28 i v) h (h.kal h0 h1) (fun g => ?_) ⟨up_f (by decide), up_f (by decide), up_f (by decide)⟩ (fun f => ⟨(fun z => by cases z), (fun z => by cases z), (fun z => by cases z)⟩) ?_ ?_ ?_
  · rw [wu_n (ne_of_cell g (h.kal h0 h1) (fun z => by cases z)), g]; rfl
  · intro j a b
    rw [wu_n (ne_of_cell (h.ins a b) (h.kal h0 h1) (fun z => by cases z)), h.ins a b]
    rfl
  · intro j a b
    by_cases hj : j = i
    · subst hj
      rw [wu_s]
      simp [cKal, up]
    · rw [wu_n (fun z => hj (h.inj2 a b h0 h1 z)), h.kal a b]
      simp [cKal, up, hj]
  · intro j a b
    rw [wu_n (ne_of_cell (h.mea a b) (h.kal h0 h1) (fun z => by cases z)), h.mea a b]
    rfl
theorem CW.put29 (h : CW base ca ad n nc nm S w) {i : Int} (h0 : 0 ≤ i) (h1 : i < nc) (v : Int) : CW base ca ad n nc nm (up S 29 i v) (wu w (ad 2 i) (.inr (0, (match cKal ad S i with | .inr (_, l) => l | _ => []).set 9 (.int (iI v))))) := by
  refine CW.put_ (up S 29 i v) h (h.kal h0 h1) (fun g => ?_) ⟨up_f (by decide), up_f (by decide), up_f (by decide)⟩ (fun f => ⟨(fun z => by cases z), (fun z => by cases z), (fun z => by cases z)⟩) ?_ ?_ ?_
  · rw [wu_n (ne_of_cell g (h.kal h0 h1) (fun z => by cases z)), g]; rfl
  · intro j a b
    rw [wu_n (ne_of_cell (h.ins a b) (h.kal h0 h1) (fun z => by cases z)), h.ins a b]
    rfl
  · intro j a b
    by_cases hj : j = i
    · subst hj
      rw [wu_s]
      simp [cKal, up]
    · rw [wu_n (fun z => hj (h.inj2 a b h0 h1 z)), h.kal a b]
      simp [cKal, up, hj]
  · intro j a b
    rw [wu_n (ne_of_cell (h.mea a b) (h.kal h0 h1) (fun z => by cases z)), h.mea a b]
    rfl
theorem CW.put30 (h : CW base ca ad n nc nm S w) {i : Int} (h0 : 0 ≤ i) (h1 : i < nm) (v : Int) : CW base ca ad n nc nm (up S 30 i v) (wu w (ad 3 i) (.inr (2, (match cMea ad S i with | .inr (_, l) => l | _ => []).set 0 (.int (iI v))))) := by
  refine CW.put_ (up S 30 i v) h (h.mea h0 h1) (fun g => ?_) ⟨up_f (by decide), up_f (by decide), up_f (by decide)⟩ (fun f => ⟨(fun z => by cases z), (fun z => by cases z), (fun z => by cases z)⟩) ?_ ?_ ?_
  · rw [wu_n (ne_of_cell g (h.mea h0 h1) (fun z => by cases z)), g]; rfl
  · intro j a b
    rw [wu_n (ne_of_cell (h.ins a b) (h.mea h0 h1) (fun z => by cases z)), h.ins a b]
    rfl
  · intro j a b
    rw [wu_n (ne_of_cell (h.kal a b) (h.mea h0 h1) (fun z => by cases z)), h.kal a b]
    rfl
  · intro j a b
    by_cases hj : j = i
    · subst hj
      rw [wu_s]
      simp [cMea, up]
    · rw [wu_n (fun z => hj (h.inj3 a b h0 h1 z)), h.mea a b]
      simp [cMea, up, hj]
theorem CW.put31 (h : CW base ca ad n nc nm S w) {i : Int} (h0 : 0 ≤ i) (h1 : i < nm) (v : Int) : CW base ca ad n nc nm (up S 31 i v) (wu w (ad 3 i) (.inr (2, (match cMea ad S i with | .inr (_, l) => l | _ => []).set 1 (va_rf (pt (ad 2) v))))) := by
  refine CW.put_ (up S 31 i v) h (h.mea h0 h1) (fun g => ?_) ⟨up_f (by decide), up_f (by decide), up_f (by decide)⟩ (fun f => ⟨(fun z => by cases z), (fun z => by cases z), (fun z => by cases z)⟩) ?_ ?_ ?_
  · rw [wu_n (ne_of_cell g (h.mea h0 h1) (fun z => by cases z)), g]; rfl
  · intro j a b
    rw [wu_n (ne_of_cell (h.ins a b) (h.mea h0 h1) (fun z => by cases z)), h.ins a b]
    rfl
  · intro j a b
    rw [wu_n (ne_of_cell (h.kal a b) (h.mea h0 h1) (fun z => by cases z)), h.kal a b]
    rfl
  · intro j a b
    by_cases hj : j = i
    · subst hj
      rw [wu_s]
      simp [cMea, up]
    · rw [wu_n (fun z => hj (h.inj3 a b h0 h1 z)), h.mea a b]
      simp [cMea, up, hj]
theorem CW.put32 (h : CW base ca ad n nc nm S w) {i : Int} (h0 : 0 ≤ i) (h1 : i < nm) (v : Int) : CW base ca ad n nc nm (up S 32 i v) (wu w (ad 3 i) (.inr (2, (match cMea ad S i with | .inr (_, l) => l | _ => []).set 2 (.int (iI v))))) := by
  refine CW.put_ (up S 32 i v) h (h.mea h0 h1) (fun g => ?_) ⟨up_f (by decide), up_f (by decide), up_f (by decide)⟩ (fun f => ⟨(fun z => by cases z), (fun z => by cases z), (fun z => by cases z)⟩) ?_ ?_ ?_
  · rw [wu_n (ne_of_cell g (h.mea h0 h1) (fun z => by cases z)), g]; rfl
  · intro j a b
    rw [wu_n (ne_of_cell (h.ins a b) (h.mea h0 h1) (fun z => by cases z)), h.ins a b]
    rfl
  · intro j a b
    rw [wu_n (ne_of_cell (h.kal a b) (h.mea h0 h1) (fun z => by cases z)), h.kal a b]
    rfl
  · intro j a b
    by_cases hj : j = i
    · subst hj
      rw [wu_s]
      simp [cMea, up]
    · rw [wu_n (fun z => hj (h.inj3 a b h0 h1 z)), h.mea a b]
      simp [cMea, up, hj]
theorem CW.put6 (h : CW base ca ad n nc nm S w) (v : Int) : CW base ca ad n nc nm (up S 6 0 v) (wu w (ad 0 0) (.inr (3, (match cCal ad S 0 with | .inr (_, l) => l | _ => []).set 6 (.int (iI v))))) := by
  refine CW.put_ (up S 6 0 v) h h.cal (fun g => ?_) ⟨up_f (by decide), up_f (by decide), up_f (by decide)⟩ (fun f => ⟨(fun z => by cases z), (fun z => by cases z), (fun z => by cases z)⟩) ?_ ?_ ?_
  · rw [wu_s]
    simp [cCal, up]
  · intro j a b
    rw [wu_n (ne_of_cell (h.ins a b) h.cal (fun z => by cases z)), h.ins a b]
    rfl
  · intro j a b
    rw [wu_n (ne_of_cell (h.kal a b) h.cal (fun z => by cases z)), h.kal a b]
    rfl
  · intro j a b
    rw [wu_n (ne_of_cell (h.mea a b) h.cal (fun z => by cases z)), h.mea a b]
    rfl
theorem CW.put7 (h : CW base ca ad n nc nm S w) (v : Int) : CW base ca ad n nc nm (up S 7 0 v) (wu w (ad 0 0) (.inr (3, (match cCal ad S 0 with | .inr (_, l) => l | _ => []).set 7 (.int (iI v))))) := by
  refine CW.put_ (up S 7 0 v) h h.cal (fun g => ?_) ⟨up_f (by decide), up_f (by decide), up_f (by decide)⟩ (fun f => ⟨(fun z => by cases z), (fun z => by cases z), (fun z => by cases z)⟩) ?_ ?_ ?_
  · rw [wu_s]
    simp [cCal, up]
  · intro j a b
    rw [wu_n (ne_of_cell (h.ins a b) h.cal (fun z => by cases z)), h.ins a b]
    rfl
  · intro j a b
    rw [wu_n (ne_of_cell (h.kal a b) h.cal (fun z => by cases z)), h.kal a b]
    rfl
  · intro j a b
    rw [wu_n (ne_of_cell (h.mea a b) h.cal (fun z => by cases z)), h.mea a b]
    rfl
theorem CW.put8 (h : CW base ca ad n nc nm S w) (v : Int) : CW base ca ad n nc nm (up S 8 0 v) (wu w (ad 0 0) (.inr (3, (match cCal ad S 0 with | .inr (_, l) => l | _ => []).set 8 (.int (iI v))))) := by
  refine CW.put_ (up S 8 0 v) h h.cal (fun g => ?_) ⟨up_f (by decide), up_f (by decide), up_f (by decide)⟩ (fun f => ⟨(fun z => by cases z), (fun z => by cases z), (fun z => by cases z)⟩) ?_ ?_ ?_
  · rw [wu_s]
    simp [cCal, up]
  · intro j a b
    rw [wu_n (ne_of_cell (h.ins a b) h.cal (fun z => by cases z)), h.ins a b]
    rfl
  · intro j a b
    rw [wu_n (ne_of_cell (h.kal a b) h.cal (fun z => by cases z)), h.kal a b]
    rfl
  · intro j a b
    rw [wu_n (ne_of_cell (h.mea a b) h.cal (fun z => by cases z)), h.mea a b]
    rfl
end CWS
