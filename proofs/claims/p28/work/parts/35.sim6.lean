/-! ===== what a failure writes, in one formula ===== -/
theorem rst_ext {S S' : St} (h24 : ∀ j, S' 24 j = S 24 j) (h27 : ∀ j, S' 27 j = S 27 j) {f mom : Int} : ∀ (k : Nat) (a : Int), rst S' f mom k a = rst S f mom k a
  | 0, _ => rfl
  | k + 1, a => by rw [rst, rst, h24, h27, rst_ext h24 h27 k]
theorem pts_ext {S S' : St} (h : ∀ j, S' 23 j = S 23 j ∧ S' 28 j = S 28 j ∧ S' 29 j = S 29 j) : ∀ (k : Nat) (a : Int), pts S' k a = pts S k a
  | 0, _ => rfl
  | k + 1, a => by rw [pts, pts, (h a).1, (h a).2.1, (h a).2.2, pts_ext h k]
theorem cb1_at {S : St} {f : Int} : ∀ (k : Nat), (∀ j : Int, cb1 S f k 32 j = if 0 ≤ j ∧ j < k ∧ stk S f j = 1 then 1 else S 32 j) ∧ cbn S f k = sm (stk S f) k
  | 0 => ⟨fun j => by rw [if_neg (by omega)]; rfl, rfl⟩
  | k + 1 => by
    obtain ⟨h1, h2⟩ := cb1_at (S := S) (f := f) k
    have hs : stk (cb1 S f k) f k = stk S f k := by
      have e32 : cb1 S f k 32 k = S 32 k := (h1 k).trans (if_neg (by omega))
      unfold stk
      rw [e32, cb1_keep k 8 0 (by decide), cb1_keep k 31 k (by decide), rst_ext (fun j => cb1_keep k 24 j (by decide)) (fun j => cb1_keep k 27 j (by decide))]
    constructor
    · intro j
      rw [cb1, hs]
      by_cases c : stk S f k = 1
      · rw [if_pos c]
        by_cases e : j = k
        · rw [e, up_s, if_pos ⟨by omega, by omega, c⟩]
        · rw [up_i e, h1 j]
          by_cases d : 0 ≤ j ∧ j < k ∧ stk S f j = 1
          · rw [if_pos d, if_pos ⟨d.1, by omega, d.2.2⟩]
          · rw [if_neg d, if_neg (fun q => d ⟨q.1, by omega, q.2.2⟩)]
      · rw [if_neg c, h1 j]
        by_cases d : 0 ≤ j ∧ j < k ∧ stk S f j = 1
        · rw [if_pos d, if_pos ⟨d.1, by omega, d.2.2⟩]
        · rw [if_neg d, if_neg (fun q => d ⟨q.1, (by
            have : j ≠ k := fun e => c (e ▸ q.2.2)
            omega), q.2.2⟩)]
    · rw [cbn, h2, hs]
      rfl
/-- whether the loop over the instruments meets one with the last calibration j -/
def mets (T : St) (f : Int) (k : Nat) (j : Int) : Prop := ∃ u : Int, (0 ≤ u ∧ u < k) ∧ u < T 3 0 ∧ T 15 u = j ∧ 0 ≤ j ∧ rst T f (T 8 0) 513 (T 24 j) = 1
theorem cb2_at {T : St} {f : Int} : ∀ (k : Nat) (j : Int), (mets T f k j → cb2 T f k 26 j = 1) ∧ (¬ mets T f k j → cb2 T f k 26 j = T 26 j)
  | 0, j => ⟨fun ⟨u, h, _⟩ => absurd h.2 (by omega), fun _ => rfl⟩
  | k + 1, j => by
    obtain ⟨h1, h2⟩ := cb2_at (T := T) (f := f) k j
    have he : cb2 T f (k + 1) = if (k : Int) < T 3 0 ∧ 0 ≤ T 15 k ∧ rst T f (T 8 0) 513 (T 24 (T 15 k)) = 1 then up (cb2 T f k) 26 (T 15 k) 1 else cb2 T f k := by
      rw [cb2, cb2_keep k 3 0 (by decide), cb2_keep k 15 k (by decide), cb2_keep k 8 0 (by decide), cb2_keep k 24 (T 15 k) (by decide), rst_ext (fun j => cb2_keep k 24 j (by decide)) (fun j => cb2_keep k 27 j (by decide))]
    rw [he]
    by_cases c : (k : Int) < T 3 0 ∧ 0 ≤ T 15 k ∧ rst T f (T 8 0) 513 (T 24 (T 15 k)) = 1
    · rw [if_pos c]
      by_cases e : j = T 15 k
      · rw [e, up_s]
        exact ⟨fun _ => rfl, fun h => absurd ⟨k, ⟨by omega, by omega⟩, c.1, rfl, c.2.1, c.2.2⟩ h⟩
      · rw [up_i e]
        constructor
        · rintro ⟨u, h3, h4, h5, h6⟩
          exact h1 ⟨u, ⟨h3.1, (by
            have : u ≠ k := fun q => e (by rw [← q]; exact h5.symm)
            omega)⟩, h4, h5, h6⟩
        · exact fun h => h2 fun ⟨u, h3, h4⟩ => h ⟨u, ⟨h3.1, by omega⟩, h4⟩
    · rw [if_neg c]
      constructor
      · rintro ⟨u, h3, h4, h5, h6, h7⟩
        refine h1 ⟨u, ⟨h3.1, (by
          have : u ≠ k := fun q => c ⟨q ▸ h4, by rw [← q, h5]; exact h6, by rw [← q, h5]; exact h7⟩
          omega)⟩, h4, h5, h6, h7⟩
      · exact fun h => h2 fun ⟨u, h3, h4⟩ => h ⟨u, ⟨h3.1, by omega⟩, h4⟩
theorem lsP_b {l : List (Int × Int)} : (∀ q ∈ l, (1 ≤ q.1 ∧ q.1 ≤ 511488) ∧ (-199998 ≤ q.2 ∧ q.2 ≤ 199998)) → (-(102297600000 * (l.length : Int)) ≤ lsP l ∧ lsP l ≤ 102297600000 * (l.length : Int)) ∧ (0 ≤ lsQ l ∧ lsQ l ≤ 261700000000 * (l.length : Int)) := by
  induction l with
  | nil => intro _; simp [lsP, lsQ]
  | cons q l ih =>
    intro h
    have h1 := ih fun x hx => h x (List.mem_cons_of_mem _ hx)
    obtain ⟨h2, h3⟩ := h q List.mem_cons_self
    have h4 := mul_rng h3 (show 0 ≤ q.1 ∧ q.1 ≤ 511488 by omega) (by decide)
    have h5 := sq_r (show 0 ≤ q.1 ∧ q.1 ≤ 511488 by omega)
    have h6 : q.1 * q.2 = q.2 * q.1 := Int.mul_comm _ _
    rw [lsP, lsQ, List.length_cons, h6]
    omega
theorem sp_b {S : St} {nc : Int} (h : ∀ j, 0 ≤ j → j < nc → S 23 j < j ∧ S 28 j ≤ 511488 ∧ (-199998 ≤ S 29 j ∧ S 29 j ≤ 199998)) {a : Int} (ha : a < nc) : (-900000000000 ≤ spP S 513 0 a ∧ spP S 513 0 a ≤ 900000000000) ∧ (0 ≤ spQ S 513 0 a ∧ spQ S 513 0 a ≤ 2200000000000) := by
  have h1 := sp_take (S := S) 513 0 a (by decide)
  have h2 := lsP_b (l := (pts S 513 a).take (8 - 0)) fun q hq => pts_r h 513 a ha q (List.mem_of_mem_take hq)
  have h3 : ((pts S 513 a).take (8 - 0)).length ≤ 8 := by rw [List.length_take]; omega
  have e1 : spP S 513 0 a = lsP ((pts S 513 a).take (8 - 0)) := h1.1
  have e2 : spQ S 513 0 a = lsQ ((pts S 513 a).take (8 - 0)) := h1.2
  rw [e1, e2]
  omega
theorem sm_add {f g h : Int → Int} : ∀ {k : Nat}, (∀ i : Int, 0 ≤ i → i < k → h i = f i + g i) → sm h k = sm f k + sm g k
  | 0, _ => rfl
  | k + 1, q => by
    show sm h k + h k = (sm f k + f k) + (sm g k + g k)
    rw [sm_add (k := k) fun i a b => q i a (by omega), q k (by omega) (by omega)]
    omega
theorem ends_ne {ref : Int → Int} {z : Int} {k : Nat} (h : ends ref k z) (h0 : 0 ≤ z) : ref z ≠ z := by
  intro e
  obtain ⟨j, -, hj⟩ := (ends_an k z).mp h
  have : ∀ j : Nat, an ref j z = z := by
    intro j
    induction j with
    | zero => rfl
    | succ i ih => rw [an_s, ih, e]
  rw [this j] at hj
  omega
