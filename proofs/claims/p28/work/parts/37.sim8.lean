/-! ===== what the model's calibrate writes, column by column ===== -/
section KMS
variable {n nm : Int} {T : St}
theorem lpA_at {X : St} {z : Int} (h : 0 ≤ X 15 z ∧ X 15 z ≤ 8) : (0 ≤ lpA X z 15 z ∧ lpA X z 15 z ≤ 7) ∧ mplf (mpF (lpA X z) z) (lpA X z 15 z).toNat = (mplf (mpF X z) (X 15 z).toNat).take 7 := by
  by_cases c : X 15 z = 8
  · have e15 : lpA X z 15 z = 7 := by rw [lpA, if_pos c, up_s]
    refine ⟨by omega, ?_⟩
    rw [e15, c]
    refine Eq.trans ?_ (mplf_shift (mpF X z) 7)
    refine mplf_cong fun i a b => ?_
    have a16 : lpA X z 16 (8 * z + i) = X 16 (8 * z + (i + 1)) := by
      rw [lpA, if_pos c, up_f (by decide), shC, if_pos (by omega), Int.add_assoc]
    have a17 : lpA X z 17 (8 * z + i) = X 17 (8 * z + (i + 1)) := by
      rw [lpA, if_pos c, up_f (by decide), shC, if_pos (by omega), Int.add_assoc]
    unfold mpF
    rw [a16, a17]
  · have e : lpA X z = X := by rw [lpA, if_neg c]
    rw [e]
    refine ⟨by omega, ?_⟩
    rw [List.take_of_length_le]
    rw [mplf_len]
    omega
theorem lpS_at {X : St} {z d e : Int} (h : 0 ≤ X 15 z ∧ X 15 z ≤ 8) : (0 ≤ lpS X z d e 15 z ∧ lpS X z d e 15 z ≤ 8) ∧ mplf (mpF (lpS X z d e) z) (lpS X z d e 15 z).toNat = ((d, e) :: mplf (mpF X z) (X 15 z).toNat).take 8 := by
  obtain ⟨h1, h2⟩ := lpA_at h
  have e15 : lpS X z d e 15 z = lpA X z 15 z + 1 := by rw [lpS, up_s]
  refine ⟨by omega, ?_⟩
  rw [e15, show (lpA X z 15 z + 1).toNat = (lpA X z 15 z).toNat + 1 by omega, List.take_succ_cons, ← h2, mplf]
  have e16 : lpS X z d e 16 (8 * z + lpA X z 15 z) = d := by rw [lpS, up_f (by decide), up_f (by decide), up_s]
  have e17 : lpS X z d e 17 (8 * z + lpA X z 15 z) = e := by rw [lpS, up_f (by decide), up_s]
  congr 1
  · unfold mpF
    rw [Int.toNat_of_nonneg h1.1, e16, e17]
  · refine mplf_cong fun i a b => ?_
    have f16 : lpS X z d e 16 (8 * z + i) = lpA X z 16 (8 * z + i) := by rw [lpS, up_f (by decide), up_f (by decide), up_i (by omega)]
    have f17 : lpS X z d e 17 (8 * z + i) = lpA X z 17 (8 * z + i) := by rw [lpS, up_f (by decide), up_i (by omega), up_f (by decide)]
    unfold mpF
    rw [f16, f17]
theorem lpS_oth {X : St} {z d e i : Int} (h : 0 ≤ X 15 z ∧ X 15 z ≤ 8) (hi : i ≠ z) : lpS X z d e 15 i = X 15 i ∧ ∀ j, 0 ≤ j → j < 8 → lpS X z d e 16 (8 * i + j) = X 16 (8 * i + j) ∧ lpS X z d e 17 (8 * i + j) = X 17 (8 * i + j) := by
  have h1 := (lpA_at h).1
  have a15 : lpA X z 15 i = X 15 i := by
    unfold lpA
    split
    · rw [up_i hi, shC_o (by decide)]
    · rfl
  have ap : ∀ g j, g = 16 ∨ g = 17 → 0 ≤ j → j < 8 → lpA X z g (8 * i + j) = X g (8 * i + j) := fun g j hg a b => by
    unfold lpA
    split
    · rw [up_f (by omega), shC, if_neg (by omega)]
    · rfl
  refine ⟨by rw [lpS, up_i hi, up_f (by decide), up_f (by decide), a15], fun j a b => ⟨?_, ?_⟩⟩
  · rw [lpS, up_f (by decide), up_f (by decide), up_i (by omega), ap 16 j (Or.inl rfl) a b]
  · rw [lpS, up_f (by decide), up_i (by omega), up_f (by decide), ap 17 j (Or.inr rfl) a b]
abbrev flT (T : St) (z x : Int) : Prop := 0 < T 8 z ∧ T 5 z < iabs x
abbrev dyT (T : St) (z : Int) : Prop := 0 < T 8 z ∧ T 10 z < T 1 0
def KMf (n nm : Int) (T K : St) (b : Nat) (z x : Int) : Prop :=
  (∀ g j, g ≠ 7 → g ≠ 13 → g ≠ 14 → g ≠ 15 → g ≠ 16 → g ≠ 17 → g ≠ 21 → K g j = T g j) ∧
  (K 7 z = if 0 < T 8 z then niv (T 5 z) (iabs x) (T 7 z) else T 7 z) ∧ (∀ i, i ≠ z → K 7 i = T 7 i) ∧
  (∀ i, K 13 i = if flT T z x ∧ 0 ≤ i ∧ i < n then tf (T 13 i ≠ 0 ∨ (hs b i = 1 ∧ i ≠ z)) else T 13 i) ∧
  (K 14 z = if flT T z x then T 14 z + 1 else T 14 z) ∧ (∀ i, i ≠ z → K 14 i = T 14 i) ∧
  ((0 ≤ K 15 z ∧ K 15 z ≤ 8) ∧ mplf (mpF K z) (K 15 z).toNat = if dyT T z then ((T 1 0 - T 10 z, x - T 12 z) :: mplf (mpF T z) (T 15 z).toNat).take 8 else mplf (mpF T z) (T 15 z).toNat) ∧
  (∀ i, i ≠ z → K 15 i = T 15 i ∧ ∀ j, 0 ≤ j → j < 8 → K 16 (8 * i + j) = T 16 (8 * i + j) ∧ K 17 (8 * i + j) = T 17 (8 * i + j)) ∧
  (∀ k, K 21 k = if flT T z x ∧ 0 ≤ k ∧ k < nm ∧ rqI T b k = 1 then 1 else T 21 k)
theorem KM_all {b : Nat} {z x : Int} (h15 : 0 ≤ T 15 z ∧ T 15 z ≤ 8) : KMf n nm T (km4 T b n nm z x) b z x := by
  obtain ⟨M, hM⟩ : ∃ M, M = km1 T b n nm z x := ⟨_, rfl⟩
  have m : ∀ g j, (g ≠ 13 ∧ g ≠ 14 ∧ g ≠ 21) → M g j = T g j := fun g j h => by rw [hM]; exact km1_o h
  -- the columns of a failure
  have q : ∀ g j, (g ≠ 13 ∧ g ≠ 14) → suC (up T 14 z (T 14 z + 1)) b z n g j = T g j := fun g j h => by rw [suC_o h.1, up_f h.2]
  have hrq : ∀ k, rqI (suC (up T 14 z (T 14 z + 1)) b z n) b k = rqI T b k := fun k => by
    unfold rqI
    rw [q 19 k (by decide), q 8 _ (by decide), q 20 k (by decide), q 21 k (by decide)]
  have m13 : ∀ i, M 13 i = if T 5 z < iabs x ∧ 0 ≤ i ∧ i < n then tf (T 13 i ≠ 0 ∨ (hs b i = 1 ∧ i ≠ z)) else T 13 i := fun i => by
    rw [hM]
    by_cases c : T 5 z < iabs x
    · rw [km1, if_pos c, faM, rcC_o (by decide), suC]
      by_cases d : 0 ≤ i ∧ i < n
      · rw [if_pos ⟨rfl, d⟩, if_pos ⟨c, d⟩, up_f (by decide)]
      · rw [if_neg (fun x => d x.2), if_neg (fun x => d x.2), up_f (by decide)]
    · rw [km1, if_neg c, if_neg (fun x => c x.1)]
  have m14 : ∀ i, M 14 i = if T 5 z < iabs x ∧ i = z then T 14 z + 1 else T 14 i := fun i => by
    rw [hM]
    by_cases c : T 5 z < iabs x
    · rw [km1, if_pos c, faM, rcC_o (by decide), suC_o (by decide)]
      by_cases d : i = z
      · rw [if_pos ⟨c, d⟩, d, up_s]
      · rw [if_neg (fun x => d x.2), up_i d]
    · rw [km1, if_neg c, if_neg (fun x => c x.1)]
  have m21 : ∀ k, M 21 k = if T 5 z < iabs x ∧ 0 ≤ k ∧ k < nm ∧ rqI T b k = 1 then 1 else T 21 k := fun k => by
    rw [hM]
    by_cases c : T 5 z < iabs x
    · rw [km1, if_pos c, faM, rcC, hrq k]
      by_cases d : 0 ≤ k ∧ k < nm ∧ rqI T b k = 1
      · rw [if_pos ⟨rfl, d⟩, if_pos ⟨c, d⟩]
      · rw [if_neg (fun x => d x.2), if_neg (fun x => d x.2), q 21 k (by decide)]
    · rw [km1, if_neg c, if_neg (fun x => c x.1)]
  by_cases c8 : 0 < T 8 z
  · obtain ⟨Y, hY⟩ : ∃ Y, Y = km2 T b n nm z x := ⟨_, rfl⟩
    have y : ∀ g j, g ≠ 7 → Y g j = M g j := fun g j h => by rw [hY, km2, up_f h, hM]
    have y7 : Y 7 z = niv (T 5 z) (iabs x) (T 7 z) := by rw [hY, km2, up_s]
    have y7o : ∀ i, i ≠ z → Y 7 i = T 7 i := fun i h => by rw [hY, km2, up_i h, ← hM, m 7 i (by decide)]
    have y15 : Y 15 z = T 15 z := by rw [y 15 z (by decide), m 15 z (by decide)]
    have hy : 0 ≤ Y 15 z ∧ Y 15 z ≤ 8 := by omega
    obtain ⟨K, hK⟩ : ∃ K, K = km4 T b n nm z x := ⟨_, rfl⟩
    have hK3 : K = if T 10 z < T 1 0 then lpS Y z (T 1 0 - T 10 z) (x - T 12 z) else Y := by rw [hK, km4, if_pos c8, km3, ← hY]
    have kY : ∀ g j, (g ≠ 15 ∧ g ≠ 16 ∧ g ≠ 17) → K g j = Y g j := fun g j h => by
      rw [hK3]
      split
      · exact lpS_o h
      · rfl
    have hmp : ∀ i (l : Nat), mplf (mpF Y i) l = mplf (mpF T i) l := fun i l => mplf_cong fun j _ _ => by
      unfold mpF
      rw [y 16 _ (by decide), y 17 _ (by decide), m 16 _ (by decide), m 17 _ (by decide)]
    rw [← hK]
    refine ⟨fun g j a1 a2 a3 a4 a5 a6 a7 => ?_, ?_, fun i hi => ?_, fun i => ?_, ?_, fun i hi => ?_, ?_, fun i hi => ?_, fun k => ?_⟩
    · rw [kY g j ⟨a4, a5, a6⟩, y g j a1, m g j ⟨a2, a3, a7⟩]
    · rw [kY 7 z (by decide), y7, if_pos c8]
    · rw [kY 7 i (by decide), y7o i hi]
    · rw [kY 13 i (by decide), y 13 i (by decide), m13]
      by_cases d : T 5 z < iabs x ∧ 0 ≤ i ∧ i < n
      · rw [if_pos d, if_pos ⟨⟨c8, d.1⟩, d.2⟩]
      · rw [if_neg d, if_neg (fun x => d ⟨x.1.2, x.2⟩)]
    · rw [kY 14 z (by decide), y 14 z (by decide), m14]
      by_cases d : T 5 z < iabs x
      · rw [if_pos ⟨d, rfl⟩, if_pos ⟨c8, d⟩]
      · rw [if_neg (fun x => d x.1), if_neg (fun x => d x.2)]
    · rw [kY 14 i (by decide), y 14 i (by decide), m14, if_neg (fun x => hi x.2)]
    · rw [hK3]
      by_cases d : T 10 z < T 1 0
      · rw [if_pos d, if_pos ⟨c8, d⟩]
        have := lpS_at (X := Y) (z := z) (d := T 1 0 - T 10 z) (e := x - T 12 z) hy
        rw [hmp, y15] at this
        exact this
      · rw [if_neg d, if_neg (fun x => d x.2), y15, hmp]
        exact ⟨h15, rfl⟩
    · rw [hK3]
      by_cases d : T 10 z < T 1 0
      · rw [if_pos d]
        obtain ⟨p1, p2⟩ := lpS_oth (X := Y) (z := z) (d := T 1 0 - T 10 z) (e := x - T 12 z) hy hi
        refine ⟨by rw [p1, y 15 i (by decide), m 15 i (by decide)], fun j j0 j1 => ?_⟩
        rw [(p2 j j0 j1).1, (p2 j j0 j1).2, y 16 _ (by decide), y 17 _ (by decide), m 16 _ (by decide), m 17 _ (by decide)]
        exact ⟨rfl, rfl⟩
      · rw [if_neg d]
        refine ⟨by rw [y 15 i (by decide), m 15 i (by decide)], fun j j0 j1 => ?_⟩
        rw [y 16 _ (by decide), y 17 _ (by decide), m 16 _ (by decide), m 17 _ (by decide)]
        exact ⟨rfl, rfl⟩
    · rw [kY 21 k (by decide), y 21 k (by decide), m21]
      by_cases d : T 5 z < iabs x ∧ 0 ≤ k ∧ k < nm ∧ rqI T b k = 1
      · rw [if_pos d, if_pos ⟨⟨c8, d.1⟩, d.2⟩]
      · rw [if_neg d, if_neg (fun x => d ⟨x.1.2, x.2⟩)]
  · have e : km4 T b n nm z x = T := by rw [km4, if_neg c8]
    rw [e]
    have nf : ¬ flT T z x := fun q => c8 q.1
    refine ⟨fun g j _ _ _ _ _ _ _ => rfl, by rw [if_neg c8], fun _ _ => rfl, fun i => by rw [if_neg (fun q => nf q.1)], by rw [if_neg nf], fun _ _ => rfl, ⟨h15, by rw [if_neg (fun q => c8 q.1)]⟩, fun i _ => ⟨rfl, fun _ _ _ => ⟨rfl, rfl⟩⟩, fun k => by rw [if_neg (fun q => nf q.1)]⟩
end KMS
