/-! ===== the simulation: the class's state S and the model's T. First what the walks agree on ===== -/
section CONG
variable {ref ref' : Int → Int} {n : Int}
theorem fof_cong {inF inF' : Int → Int} (hr : ∀ i, 0 ≤ i → i < n → -1 ≤ ref i ∧ ref i < n) (he : ∀ i, 0 ≤ i → i < n → ref' i = ref i ∧ inF' i = inF i) : ∀ (k : Nat) (u : Int), u < n → fof ref' inF' k u = fof ref inF k u
  | 0, _, _ => rfl
  | k + 1, u, h => by
    by_cases hu : u < 0
    · rw [fof_n hu, fof_n hu]
    · obtain ⟨e1, e2⟩ := he u (by omega) h
      rw [fof, fof, e1, e2, fof_cong hr he k (ref u) (hr u (by omega) h).2]
theorem inCh_cong (hr : ∀ i, 0 ≤ i → i < n → -1 ≤ ref i ∧ ref i < n) (he : ∀ i, 0 ≤ i → i < n → ref' i = ref i) : ∀ (k : Nat) (u i : Int), u < n → inCh ref' k u i = inCh ref k u i
  | 0, _, _, _ => rfl
  | k + 1, u, i, h => by
    by_cases hu : u < 0
    · rw [inCh_n hu, inCh_n hu]
    · rw [inCh, inCh, he u (by omega) h, inCh_cong hr he k (ref u) i (hr u (by omega) h).2]
theorem len_cong (hr : ∀ i, 0 ≤ i → i < n → -1 ≤ ref i ∧ ref i < n) (he : ∀ i, 0 ≤ i → i < n → ref' i = ref i) : ∀ (k : Nat) (u : Int), u < n → len ref' k u = len ref k u
  | 0, _, _ => rfl
  | k + 1, u, h => by
    by_cases hu : u < 0
    · rw [len_n hu, len_n hu]
    · rw [len, len, he u (by omega) h, len_cong hr he k (ref u) (hr u (by omega) h).2]
theorem unc_cong {own own' : Int → Int} (hr : ∀ i, 0 ≤ i → i < n → -1 ≤ ref i ∧ ref i < n) (he : ∀ i, 0 ≤ i → i < n → ref' i = ref i ∧ own' i = own i) : ∀ (k : Nat) (u : Int), u < n → unc ref' own' k u = unc ref own k u
  | 0, _, _ => rfl
  | k + 1, u, h => by
    by_cases hu : u < 0
    · rw [unc_n hu, unc_n hu]
    · obtain ⟨e1, e2⟩ := he u (by omega) h
      rw [unc, unc, e1, e2, unc_cong hr he k (ref u) (hr u (by omega) h).2]
theorem ends_cong (hr : ∀ i, 0 ≤ i → i < n → -1 ≤ ref i ∧ ref i < n) (he : ∀ i, 0 ≤ i → i < n → ref' i = ref i) : ∀ (k : Nat) (u : Int), u < n → ends ref k u → ends ref' k u
  | 0, _, _, h => h
  | k + 1, u, h, hd => by
    by_cases hu : u < 0
    · exact Or.inl hu
    · have h2 := ends_cong hr he k (ref u) (hr u (by omega) h).2 (hd.elim (fun z => absurd z hu) id)
      rw [← he u (by omega) h] at h2
      exact Or.inr h2
end CONG
/-! the points: a list, the newest first -/
def lsP : List (Int × Int) → Int
  | [] => 0
  | q :: l => q.1 * q.2 + lsP l
def lsQ : List (Int × Int) → Int
  | [] => 0
  | q :: l => q.1 * q.1 + lsQ l
def pts (S : St) : Nat → Int → List (Int × Int)
  | 0, _ => []
  | k + 1, a => if a < 0 then [] else if S 28 a ≤ 0 then pts S k (S 23 a) else (S 28 a, S 29 a) :: pts S k (S 23 a)
theorem pts_n {S : St} {k : Nat} {a : Int} (h : a < 0) : pts S k a = [] := by
  cases k with
  | zero => rfl
  | succ j => rw [pts, if_pos h]
theorem sp_take {S : St} : ∀ (k : Nat) (c : Nat) (a : Int), c ≤ 8 → spP S k c a = lsP ((pts S k a).take (8 - c)) ∧ spQ S k c a = lsQ ((pts S k a).take (8 - c))
  | 0, _, _, _ => by simp [spP, spQ, pts, lsP, lsQ]
  | k + 1, c, a, hc => by
    by_cases h : a < 0 ∨ 8 ≤ (c : Int)
    · have h0 := sp_n (S := S) (k := k + 1) h
      rw [h0.1, h0.2]
      rcases h with h | h
      · rw [pts_n h]; simp [lsP, lsQ]
      · rw [show 8 - c = 0 by omega]; simp [lsP, lsQ]
    · by_cases hz : S 28 a ≤ 0
      · have h0 := sp_p (S := S) (k := k) h hz
        rw [h0.1, h0.2, pts, if_neg (fun z => h (Or.inl z)), if_pos hz]
        exact sp_take k c _ hc
      · have h0 := sp_s (S := S) (k := k) h hz
        have h1 := sp_take (S := S) k (c + 1) (S 23 a) (by omega)
        rw [h0.1, h0.2, pts, if_neg (fun z => h (Or.inl z)), if_neg hz, show (c : Int) + 1 = ((c + 1 : Nat) : Int) by omega, h1.1, h1.2, show 8 - c = (8 - (c + 1)) + 1 by omega, List.take_succ_cons]
        exact ⟨rfl, rfl⟩
theorem pts_loc {S S' : St} {nc : Int} (h : ∀ j, 0 ≤ j → j < nc → S 23 j < j ∧ S' 23 j = S 23 j ∧ S' 28 j = S 28 j ∧ S' 29 j = S 29 j) : ∀ (k : Nat) (a : Int), a < nc → pts S' k a = pts S k a
  | 0, _, _ => rfl
  | k + 1, a, ha => by
    by_cases hu : a < 0
    · rw [pts_n hu, pts_n hu]
    · obtain ⟨h1, h2, h3, h4⟩ := h a (by omega) ha
      rw [pts, pts, h2, h3, h4, pts_loc h k (S 23 a) (by omega)]
theorem pts_fuel {S : St} {nc : Int} (h : ∀ j, 0 ≤ j → j < nc → S 23 j < j) : ∀ (k1 k2 : Nat) (a : Int), a < nc → a < k1 → a < k2 → pts S k1 a = pts S k2 a
  | 0, _, a, _, h1, _ => by rw [pts_n (by omega), pts_n (by omega)]
  | k1 + 1, 0, a, _, _, h2 => by rw [pts_n (by omega), pts_n (by omega)]
  | k1 + 1, k2 + 1, a, ha, h1, h2 => by
    by_cases hu : a < 0
    · rw [pts_n hu, pts_n hu]
    · have := h a (by omega) ha
      rw [pts, pts, pts_fuel h k1 k2 (S 23 a) (by omega) (by omega) (by omega)]
theorem pts_r {S : St} {nc : Int} (h : ∀ j, 0 ≤ j → j < nc → S 23 j < j ∧ S 28 j ≤ 511488 ∧ (-199998 ≤ S 29 j ∧ S 29 j ≤ 199998)) : ∀ (k : Nat) (a : Int), a < nc → ∀ q ∈ pts S k a, (1 ≤ q.1 ∧ q.1 ≤ 511488) ∧ (-199998 ≤ q.2 ∧ q.2 ≤ 199998)
  | 0, _, _, q, hq => by cases hq
  | k + 1, a, ha, q, hq => by
    by_cases hu : a < 0
    · rw [pts_n hu] at hq; cases hq
    · obtain ⟨h1, h2, h3⟩ := h a (by omega) ha
      rw [pts, if_neg hu] at hq
      by_cases hz : S 28 a ≤ 0
      · rw [if_pos hz] at hq
        exact pts_r h k _ (by omega) q hq
      · rw [if_neg hz] at hq
        rcases List.mem_cons.mp hq with rfl | hq
        · exact ⟨⟨by show 1 ≤ S 28 a; omega, h2⟩, h3⟩
        · exact pts_r h k _ (by omega) q hq
/-- the first k points of the model, the newest first -/
def mplf (f : Int → Int × Int) : Nat → List (Int × Int)
  | 0 => []
  | k + 1 => f k :: mplf f k
theorem mplf_len (f : Int → Int × Int) : ∀ k, (mplf f k).length = k
  | 0 => rfl
  | k + 1 => by rw [mplf, List.length_cons, mplf_len f k]
theorem mplf_cong {f g : Int → Int × Int} : ∀ {k : Nat}, (∀ i : Int, 0 ≤ i → i < k → g i = f i) → mplf g k = mplf f k
  | 0, _ => rfl
  | k + 1, h => by rw [mplf, mplf, h k (by omega) (by omega), mplf_cong fun i a b => h i a (by omega)]
theorem mplf_shift (f : Int → Int × Int) : ∀ k : Nat, mplf (fun i => f (i + 1)) k = (mplf f (k + 1)).take k
  | 0 => rfl
  | k + 1 => by
    rw [mplf, mplf_shift f k, show mplf f (k + 1 + 1) = f (k + 1 : Nat) :: mplf f (k + 1) from rfl, List.take_succ_cons]
    rfl
theorem mplf_mem {f : Int → Int × Int} : ∀ {k : Nat} {i : Int}, 0 ≤ i → i < k → f i ∈ mplf f k
  | 0, i, h0, h1 => by omega
  | k + 1, i, h0, h1 => by
    by_cases h : i = k
    · rw [h]; exact List.mem_cons_self
    · exact List.mem_cons_of_mem _ (mplf_mem h0 (by omega))
def mpF (T : St) (z : Int) : Int → Int × Int := fun k => (T 16 (8 * z + k), T 17 (8 * z + k))
theorem mpl_P (T : St) (z : Int) : ∀ k : Nat, sm (fun j => pp T (8 * z + j)) k = lsP (mplf (mpF T z) k) ∧ sm (fun j => pq T (8 * z + j)) k = lsQ (mplf (mpF T z) k)
  | 0 => ⟨rfl, rfl⟩
  | k + 1 => by
    obtain ⟨h1, h2⟩ := mpl_P T z k
    rw [mplf, lsP, lsQ, ← h1, ← h2]
    exact ⟨Int.add_comm _ _, Int.add_comm _ _⟩
/-! what rests on a calibration -/
theorem rst_fuel {S : St} {f mom nc : Int} (h : ∀ j, 0 ≤ j → j < nc → S 24 j < j) : ∀ (k1 k2 : Nat) (a : Int), a < nc → a < k1 → a < k2 → rst S f mom k1 a = rst S f mom k2 a
  | 0, _, a, _, h1, _ => by rw [rst_n (by omega), rst_n (by omega)]
  | k1 + 1, 0, a, _, _, h2 => by rw [rst_n (by omega), rst_n (by omega)]
  | k1 + 1, k2 + 1, a, ha, h1, h2 => by
    by_cases hu : a < 0
    · rw [rst_n hu, rst_n hu]
    · have := h a (by omega) ha
      rw [rst, rst, rst_fuel h k1 k2 (S 24 a) (by omega) (by omega) (by omega)]
theorem rst_loc {S S' : St} {f mom nc : Int} (h : ∀ j, 0 ≤ j → j < nc → S 24 j < j ∧ S' 24 j = S 24 j ∧ (j = f ∨ (S' 27 j < mom ↔ S 27 j < mom))) : ∀ (k : Nat) (a : Int), a < nc → rst S' f mom k a = rst S f mom k a
  | 0, _, _ => rfl
  | k + 1, a, ha => by
    by_cases hu : a < 0
    · rw [rst_n hu, rst_n hu]
    · obtain ⟨h1, h2, h3⟩ := h a (by omega) ha
      by_cases e : a = f
      · rw [rst_e (by omega) e, rst_e (by omega) e]
      · have h4 := h3.elim (fun z => absurd z e) id
        by_cases z : S 27 a < mom
        · rw [rst_o (by omega) e z, rst_o (by omega) e (h4.mpr z)]
        · rw [rst_s (S := S') (by omega) e (Int.not_lt.mp fun q => z (h4.mp q)), rst_s (S := S) (by omega) e (by omega), h2, rst_loc h k (S 24 a) (by omega)]
theorem rst_01 {S : St} {f mom : Int} {k : Nat} {a : Int} (h : rst S f mom k a ≠ 1) : rst S f mom k a = 0 := by
  have := rst_b S f mom k a
  omega
