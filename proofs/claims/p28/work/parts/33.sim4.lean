theorem fb_holes : ∀ (m n : Nat) (f : Nat → Nat), (∀ i, i < n → f i < m) → (∀ i j, i < j → j < n → f i ≠ f j) → n ≤ m := by
  intro m
  induction m with
  | zero =>
    intro n f h1 _
    rcases Nat.eq_zero_or_pos n with h | h
    · omega
    · exact absurd (h1 0 h) (Nat.not_lt_zero _)
  | succ m ih =>
    intro n f h1 h2
    by_cases hx : ∃ i, i < n ∧ f i = m
    · obtain ⟨a, ha, hfa⟩ := hx
      have hg := ih (n - 1) (fun i => if i < a then f i else f (i + 1)) (by
        intro i hi
        by_cases q : i < a
        · simp only [if_pos q]
          have b1 := h1 i (by omega)
          have b2 := h2 i a q ha
          omega
        · simp only [if_neg q]
          have b1 := h1 (i + 1) (by omega)
          have b2 := h2 a (i + 1) (by omega) (by omega)
          omega) (by
        intro i j hij hj
        by_cases q : i < a
        · by_cases r : j < a
          · simp only [if_pos q, if_pos r]
            exact h2 i j hij (by omega)
          · simp only [if_pos q, if_neg r]
            exact h2 i (j + 1) (by omega) (by omega)
        · have r : ¬ j < a := by omega
          simp only [if_neg q, if_neg r]
          exact h2 (i + 1) (j + 1) (by omega) (by omega))
      omega
    · have hg := ih n f (fun i hi => by
        have b1 := h1 i hi
        have b2 : f i ≠ m := fun e => hx ⟨i, hi, e⟩
        omega) h2
      omega
/-! ===== chains that end, and references that are changed ===== -/
theorem ends_an {ref : Int → Int} : ∀ (k : Nat) (u : Int), ends ref k u ↔ ∃ j : Nat, j ≤ k ∧ an ref j u < 0
  | 0, u => ⟨fun h => ⟨0, Nat.le_refl _, h⟩, fun ⟨j, hj, h⟩ => by rw [Nat.le_zero.mp hj] at h; exact h⟩
  | k + 1, u => by
    constructor
    · rintro (h | h)
      · exact ⟨0, Nat.zero_le _, h⟩
      · obtain ⟨j, hj, h⟩ := (ends_an k (ref u)).mp h
        exact ⟨j + 1, by omega, h⟩
    · rintro ⟨j, hj, h⟩
      cases j with
      | zero => exact Or.inl h
      | succ i => exact Or.inr ((ends_an k (ref u)).mpr ⟨i, by omega, h⟩)
theorem an_add {ref : Int → Int} : ∀ (a b : Nat) (u : Int), an ref (a + b) u = an ref a (an ref b u)
  | a, 0, u => rfl
  | a, b + 1, u => an_add a b (ref u)
theorem ends_12 {ref : Int → Int} {n : Int} (hn : 0 ≤ n ∧ n ≤ 12) (hr : ∀ i, 0 ≤ i → i < n → ref i < n) {u : Int} (hu : u < n) {k : Nat} (h : ends ref k u) : ends ref 12 u := by
  have hmin : ∃ d : Nat, an ref d u < 0 ∧ ∀ e : Nat, e < d → 0 ≤ an ref e u := by
    obtain ⟨j, -, hj⟩ := (ends_an k u).mp h
    clear h
    induction j using Nat.strongRecOn with
    | ind j ih =>
      by_cases c : ∃ e : Nat, e < j ∧ an ref e u < 0
      · obtain ⟨e, he, hz⟩ := c
        exact ih e he hz
      · exact ⟨j, hj, fun e he => Int.not_lt.mp fun z => c ⟨e, he, z⟩⟩
  obtain ⟨d, hd, hlow⟩ := hmin
  have hrange : ∀ e : Nat, e < d → an ref e u < n := by
    intro e
    induction e with
    | zero => exact fun _ => hu
    | succ i ih => exact fun he => by rw [an_s]; exact hr _ (hlow i (by omega)) (ih (by omega))
  have hle : d ≤ n.toNat := fb_holes n.toNat d (fun i => (an ref i u).toNat) (fun i hi => by have := hrange i hi; have := hlow i hi; show (an ref i u).toNat < n.toNat; omega) (fun i j hij hj e => by
    have h1 := hlow i (by omega)
    have h2 := hlow j hj
    have e2 : an ref i u = an ref j u := by
      have e' : (an ref i u).toNat = (an ref j u).toNat := e
      omega
    have h3 : an ref ((d - j) + i) u = an ref ((d - j) + j) u := by rw [an_add, an_add, e2]
    rw [show (d - j) + j = d by omega] at h3
    have h4 := hlow ((d - j) + i) (by omega)
    omega)
  exact (ends_an 12 u).mpr ⟨d, by omega, hd⟩
theorem ends_off {ref ref' : Int → Int} {z : Int} (he : ∀ i, i ≠ z → ref' i = ref i) : ∀ (k : Nat) (u : Int), inCh ref k u z = 0 → ends ref k u → ends ref' k u
  | 0, _, _, h => h
  | k + 1, u, hc, h => by
    by_cases hu : u < 0
    · exact Or.inl hu
    · rw [inCh, if_neg hu] at hc
      by_cases e : u = z
      · rw [if_pos e] at hc; cases hc
      · rw [if_neg e] at hc
        refine Or.inr ?_
        rw [he u e]
        exact ends_off he k (ref u) hc (h.elim (fun q => absurd q hu) id)
theorem ends_ref {ref ref' : Int → Int} {z r : Int} (he : ∀ i, i ≠ z → ref' i = ref i) (hz : ref' z = r) (hr : ends ref' 12 r) : ∀ (k : Nat) (u : Int), ends ref k u → ∃ m, ends ref' m u
  | 0, u, h => ⟨0, h⟩
  | k + 1, u, h => by
    by_cases hu : u < 0
    · exact ⟨0, hu⟩
    · by_cases e : u = z
      · exact ⟨13, Or.inr (by rw [e, hz]; exact hr)⟩
      · obtain ⟨m, hm⟩ := ends_ref he hz hr k (ref u) (h.elim (fun q => absurd q hu) id)
        exact ⟨m + 1, Or.inr (by rw [he u e]; exact hm)⟩
/-! ===== what stays of the relation where others are written ===== -/
theorem sp_of {S S' : St} {a : Int} (h : pts S' 513 a = pts S 513 a) : spP S' 513 0 a = spP S 513 0 a ∧ spQ S' 513 0 a = spQ S 513 0 a := by
  have h1 := sp_take (S := S) 513 0 a (by decide)
  have h2 := sp_take (S := S') 513 0 a (by decide)
  rw [h] at h2
  have e1 : spP S' 513 0 a = spP S 513 0 a := h2.1.trans h1.1.symm
  have e2 : spQ S' 513 0 a = spQ S 513 0 a := h2.2.trans h1.2.symm
  exact ⟨e1, e2⟩
theorem SI1.of {n n' : Int} {S S' T T' : St} {ow ow' : Int → Int} {i : Int} (h : SI1 n S T ow i) (hn : n ≤ n') (hS : ∀ g, 10 ≤ g → g ≤ 18 → g ≠ 14 → S' g i = S g i)
    (hK : ∀ g j, 0 ≤ j → j ≤ S 15 i → (20 ≤ g ∧ g ≤ 24) ∨ g = 28 ∨ g = 29 → S' g j = S g j) (h27 : 0 ≤ S 15 i → S' 27 (S 15 i) = S 27 (S 15 i)) (hs : 0 ≤ S 15 i → T' 13 i = S' 26 (S 15 i)) (hs2 : S 15 i < 0 → T' 13 i = 0)
    (hr : T' 4 i = S' 14 i) (hT : ∀ g, 5 ≤ g → g ≤ 15 → g ≠ 13 → T' g i = T g i) (hP : ∀ j, 0 ≤ j → j < 8 → T' 16 (8 * i + j) = T 16 (8 * i + j) ∧ T' 17 (8 * i + j) = T 17 (8 * i + j))
    (ho : ∀ j, 0 ≤ j → j ≤ S 15 i → ow' j = ow j) (hd : ∀ j, 0 ≤ j → j ≤ S 15 i → S 23 j < j ∧ S 24 j < j) : SI1 n' S' T' ow' i := by
  have hl := h.len
  obtain ⟨⟨q4, q5, q6, q7, q14⟩, q15, q16, q17, q18, q19, q20⟩ := h
  have hp : pts S' 513 (S 15 i) = pts S 513 (S 15 i) := pts_loc (nc := S 15 i + 1) (fun j a b => ⟨(hd j a (by omega)).1, hK 23 j a (by omega) (by decide), hK 28 j a (by omega) (by decide), hK 29 j a (by omega) (by decide)⟩) 513 (S 15 i) (by omega)
  have hsp := sp_of hp
  have e15 := hS 15 (by decide) (by decide) (by decide)
  unfold SI1
  rw [e15, hS 11 (by decide) (by decide) (by decide), hS 12 (by decide) (by decide) (by decide), hS 13 (by decide) (by decide) (by decide), hS 16 (by decide) (by decide) (by decide), hS 17 (by decide) (by decide) (by decide), hS 18 (by decide) (by decide) (by decide), hp, hsp.1, hsp.2,
    hT 5 (by decide) (by decide) (by decide), hT 6 (by decide) (by decide) (by decide), hT 7 (by decide) (by decide) (by decide), hT 8 (by decide) (by decide) (by decide), hT 9 (by decide) (by decide) (by decide), hT 10 (by decide) (by decide) (by decide), hT 11 (by decide) (by decide) (by decide), hT 12 (by decide) (by decide) (by decide), hT 14 (by decide) (by decide) (by decide), hT 15 (by decide) (by decide) (by decide)]
  refine ⟨⟨hr, q5, q6, q7, q14⟩, fun c => ?_, fun c => ?_, ?_, q18, q19, q20⟩
  · obtain ⟨x8, x9, x10, x11, x12, -⟩ := q15 c
    exact ⟨x8, x9, x10, x11, x12, hs2 c⟩
  · obtain ⟨x8, x9, x9a, x9b, x10, x11, x12, x13, xo, x27⟩ := q16 c
    rw [hK 20 (S 15 i) c (Int.le_refl _) (by decide), hK 21 (S 15 i) c (Int.le_refl _) (by decide), hK 22 (S 15 i) c (Int.le_refl _) (by decide), hK 24 (S 15 i) c (Int.le_refl _) (by decide), ho (S 15 i) c (Int.le_refl _), h27 c]
    have hd2 := (hd (S 15 i) c (Int.le_refl _)).2
    exact ⟨x8, ⟨x9.1, by omega⟩, x9a, fun y => ⟨(x9b y).1, by rw [ho _ (x9b y).1 (by omega)]; exact (x9b y).2⟩, x10, x11, x12, hs c, xo, x27⟩
  · rw [← q17]
    refine mplf_cong fun j a b => ?_
    have := hP j a (by omega)
    unfold mpF
    rw [this.1, this.2]
theorem lrc_cong {S S' : St} {k k' : Int} : ∀ {m : Nat}, (∀ i : Int, 0 ≤ i → i < m → lgc S' k' i = lgc S k i) → lrc S' k' m = lrc S k m
  | 0, _ => rfl
  | m + 1, h => by
    rw [lrc, lrc, lrc_cong fun i a b => h i a (by omega), h m (by omega) (by omega)]
theorem lgc_of {S S' : St} {nc k i : Int} (h25 : S' 25 i = S 25 i) (h30 : S' 30 k = S 30 k) (h20 : S' 20 i = S 20 i) (h23 : S' 23 i = S 23 i) (h31 : S' 31 k = S 31 k) (h31b : S 31 k < nc)
    (hd : ∀ j, 0 ≤ j → j < nc → S 24 j < j ∧ S' 24 j = S 24 j ∧ (S' 27 j < S 20 i ↔ S 27 j < S 20 i)) : lgc S' k i = lgc S k i := by
  unfold lgc
  rw [h25, h30, h20, h23, h31, rst_loc (S' := S') (S := S) (nc := nc) (fun j a b => ⟨(hd j a b).1, (hd j a b).2.1, Or.inr (hd j a b).2.2⟩) 513 (S 31 k) h31b]
theorem SM1.of {n nc nm : Int} {S S' T T' : St} {ow ow' : Int → Int} {k : Int} (hI : IC n nc nm S) (h : SM1 S T ow k) (h0 : 0 ≤ k) (h1 : k < nm) (hS : S' 30 k = S 30 k ∧ S' 31 k = S 31 k ∧ S' 32 k = S 32 k) (hT : T' 19 k = T 19 k ∧ T' 20 k = T 20 k ∧ T' 21 k = T 21 k)
    (ho : ow' (S 31 k) = ow (S 31 k)) (hK : ∀ g j, 20 ≤ g → g ≤ 29 → 0 ≤ j → j < nc → S' g j = S g j) (h8 : S 8 0 ≤ S' 8 0) (h5 : S' 5 0 = S 5 0) : SM1 S' T' ow' k := by
  obtain ⟨x19, x20, x21, y1, y2, y3, y4⟩ := h
  obtain ⟨-, r31, -⟩ := hI.mea h0 h1
  have h50 := hI.top.2.2.2.2.2.1
  unfold SM1
  rw [hT.1, hT.2.1, hT.2.2, hS.1, hS.2.1, hS.2.2, ho, hK 20 _ (by decide) (by decide) r31.1 r31.2, hK 27 _ (by decide) (by decide) r31.1 r31.2, h5]
  refine ⟨x19, x20, x21, y1, y2, by omega, ?_⟩
  rw [y4]
  refine (lrc_cong fun i a b => ?_).symm
  have hb : i < nc := by omega
  exact lgc_of (nc := nc) (hK 25 i (by decide) (by decide) a hb) hS.1 (hK 20 i (by decide) (by decide) a hb) (hK 23 i (by decide) (by decide) a hb) hS.2.1 r31.2 fun j c d => ⟨(hI.kal c d).2.2.2.2.1.2, hK 24 j (by decide) (by decide) c d, by rw [hK 27 j (by decide) (by decide) c d]⟩
