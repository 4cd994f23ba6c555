/-! ===== what the law's comparisons rest on: the walks step by step ===== -/
theorem fof_f {ref inF : Int → Int} : ∀ (k : Nat) (u : Int), ends ref k u → fof ref inF (k + 1) u = fof ref inF k u
  | 0, u, h => by rw [fof_n (ends_0 h), fof_n (ends_0 h)]
  | k + 1, u, h => by
    by_cases hu : u < 0
    · rw [fof_n hu, fof_n hu]
    · by_cases e : inF u = 0
      · rw [fof_e (by omega) e, fof_e (by omega) e]
      · rw [fof_s (k := k + 1) (u := u) (by omega) e, fof_s (k := k) (u := u) (by omega) e]
        exact fof_f k (ref u) (ends_st h (by omega))
theorem len_f {ref : Int → Int} : ∀ (k : Nat) (u : Int), ends ref k u → len ref (k + 1) u = len ref k u
  | 0, u, h => by rw [len_n (ends_0 h), len_n (ends_0 h)]
  | k + 1, u, h => by
    by_cases hu : u < 0
    · rw [len_n hu, len_n hu]
    · rw [len_s (k := k + 1) (u := u) (by omega), len_s (k := k) (u := u) (by omega), len_f k (ref u) (ends_st h (by omega))]
theorem unc_f {ref own : Int → Int} : ∀ (k : Nat) (u : Int), ends ref k u → unc ref own (k + 1) u = unc ref own k u
  | 0, u, h => by rw [unc_n (ends_0 h), unc_n (ends_0 h)]
  | k + 1, u, h => by
    by_cases hu : u < 0
    · rw [unc_n hu, unc_n hu]
    · rw [unc_s (k := k + 1) (u := u) (by omega), unc_s (k := k) (u := u) (by omega), unc_f k (ref u) (ends_st h (by omega))]
theorem fof_12 {ref inF : Int → Int} {u : Int} (h : ends ref 12 u) (h0 : 0 ≤ u) (e : inF u ≠ 0) : fof ref inF 12 u = fof ref inF 12 (ref u) := by
  rw [fof_s (k := 11) h0 e]
  exact (fof_f 11 (ref u) (ends_st h h0)).symm
theorem unc_12 {ref own : Int → Int} {u : Int} (h : ends ref 12 u) (h0 : 0 ≤ u) : unc ref own 12 u = rt (own u * own u + unc ref own 12 (ref u) * unc ref own 12 (ref u)) := by
  rw [unc_s (k := 11) h0, ← unc_f 11 (ref u) (ends_st h h0)]
theorem rt_sq9 {a : Int} (h : 0 ≤ a ∧ a ≤ 999) : rt (a * a) = a := by
  have h1 := sq_r h
  refine (rt_of (x := a * a) (by omega) ⟨h.1, Int.le_refl _, fun t ht0 ht => ?_⟩).symm
  have h2 : t * t ≤ t * a := Int.mul_le_mul_of_nonneg_left (by omega) ht0
  have h3 : t * a < a * a := Int.mul_lt_mul_of_pos_right ht (by omega)
  omega
/-- the law's comparison of the uncertainty -/
theorem rt_law {x : Int} (hx : 0 ≤ x ∧ x ≤ 400000000) : x ≤ rt x * rt x ∧ (rt x = 0 ∨ (rt x - 1) * (rt x - 1) < x) := by
  obtain ⟨h0, h1, h2⟩ := rt_is hx.2
  refine ⟨h1, ?_⟩
  by_cases c : rt x = 0
  · exact Or.inl c
  · exact Or.inr (h2 (rt x - 1) (by omega) (by omega))
theorem len_1 {ref : Int → Int} {k : Nat} {u : Int} (h : 0 ≤ u) : 1 ≤ len ref (k + 1) u := by
  rw [len_s h]
  have := (len_b ref k (ref u)).1
  omega
/-! the chain's loop: what is counted, and the first that is not in force -/
theorem inCh_at {ref : Int → Int} {u i : Int} {k : Nat} (h0 : 0 ≤ u) (h : inCh ref (k + 1) u i = 0) : u ≠ i ∧ inCh ref k (ref u) i = 0 := by
  by_cases e : u = i
  · rw [inCh_e h0 e] at h; cases h
  · exact ⟨e, by rw [inCh_s h0 e] at h; exact h⟩
/-! ===== sums ===== -/
theorem sm_le {f g : Int → Int} : ∀ {k : Nat}, (∀ i : Int, 0 ≤ i → i < k → f i ≤ g i) → sm f k ≤ sm g k
  | 0, _ => Int.le_refl _
  | k + 1, h => by
    have h1 := sm_le (k := k) fun i a b => h i a (by omega)
    have h2 := h k (by omega) (by omega)
    rw [sm, sm]
    omega
theorem sm_lt {f g : Int → Int} {v : Int} : ∀ {k : Nat}, (∀ i : Int, 0 ≤ i → i < k → f i ≤ g i) → 0 ≤ v → v < k → f v + 1 ≤ g v → sm f k + 1 ≤ sm g k
  | 0, _, h0, h1, _ => by omega
  | k + 1, h, h0, h1, h2 => by
    rw [sm, sm]
    by_cases e : v = k
    · have h3 := sm_le (k := k) fun i a b => h i a (by omega)
      rw [← e]
      omega
    · have h3 := sm_lt (k := k) (fun i a b => h i a (by omega)) h0 (by omega) h2
      have h4 := h k (by omega) (by omega)
      omega
theorem sm_z {f : Int → Int} : ∀ {k : Nat}, (∀ i : Int, 0 ≤ i → i < k → f i = 0) → sm f k = 0
  | 0, _ => rfl
  | k + 1, h => by rw [sm, sm_z (k := k) fun i a b => h i a (by omega), h k (by omega) (by omega)]; rfl
/-- at most one has a value that none shares -/
theorem sm_one {P : Int → Prop} [DecidablePred P] : ∀ {k : Nat}, (∀ i j : Int, 0 ≤ i → i < k → 0 ≤ j → j < k → P i → P j → i = j) → sm (fun i => tf (P i)) k ≤ 1
  | 0, _ => by show (0 : Int) ≤ 1; decide
  | k + 1, h => by
    rw [sm]
    by_cases c : P k
    · have h1 : sm (fun i => tf (P i)) k = 0 := sm_z fun i a b => tf_f fun q => by
        have := h i k a (by omega) (by omega) (by omega) q c
        omega
      rw [h1, tf_t c]
      decide
    · have h1 := sm_one (P := P) (k := k) fun i j a b d e => h i j a (by omega) d (by omega)
      rw [tf_f c]
      omega
/-- those whose numbers, each its own, lie in a row of e: at most e -/
theorem sm_row {P : Int → Prop} [DecidablePred P] {f : Int → Int} {k : Nat} (hinj : ∀ i j : Int, 0 ≤ i → i < k → 0 ≤ j → j < k → P i → P j → f i = f j → i = j) : ∀ (e : Nat) (a : Int), sm (fun i => tf (P i ∧ a ≤ f i ∧ f i < a + e)) k ≤ e
  | 0, a => by
    rw [sm_z fun i _ _ => tf_f fun q => by omega]
    decide
  | e + 1, a => by
    have h1 := sm_row hinj e a
    have h2 : sm (fun i => tf (P i ∧ f i = a + e)) k ≤ 1 := sm_one (P := fun i => P i ∧ f i = a + e) fun i j p q r s t u => hinj i j p q r s t.1 u.1 (t.2.trans u.2.symm)
    have h3 : sm (fun i => tf (P i ∧ a ≤ f i ∧ f i < a + ((e + 1 : Nat) : Int))) k = sm (fun i => tf (P i ∧ a ≤ f i ∧ f i < a + e)) k + sm (fun i => tf (P i ∧ f i = a + e)) k := by
      refine sm_add fun i _ _ => ?_
      by_cases p : P i
      · by_cases q : f i = a + e
        · rw [tf_t ⟨p, by omega, by omega⟩, tf_f (fun z => by omega), tf_t ⟨p, q⟩]
          rfl
        · rw [tf_f (c := P i ∧ f i = a + e) (fun z => q z.2), Int.add_zero]
          exact tf_eq ⟨fun z => ⟨z.1, z.2.1, by omega⟩, fun z => ⟨z.1, z.2.1, by omega⟩⟩
      · rw [tf_f (fun z => p z.1), tf_f (fun z => p z.1), tf_f (fun z => p z.1)]
        rfl
    omega
