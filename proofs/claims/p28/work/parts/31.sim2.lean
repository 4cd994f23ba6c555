/-! ===== the relation of the two states; c: the calls so far; ow: whose a calibration is ===== -/
def SI1 (n : Int) (S T : St) (ow : Int → Int) (i : Int) : Prop :=
  (T 4 i = S 14 i ∧ T 5 i = S 11 i ∧ T 6 i = S 12 i ∧ T 7 i = S 13 i ∧ T 14 i = S 16 i) ∧
  (S 15 i < 0 → (T 8 i = 0 ∧ T 9 i = 0 ∧ T 10 i = 0 ∧ T 11 i = 0 ∧ T 12 i = 0 ∧ T 13 i = 0)) ∧
  (0 ≤ S 15 i → (T 8 i = S 20 (S 15 i) + 1 ∧ (-1 ≤ T 9 i ∧ T 9 i < n) ∧ (T 9 i = -1 → S 24 (S 15 i) < 0) ∧ (T 9 i ≠ -1 → 0 ≤ S 24 (S 15 i) ∧ ow (S 24 (S 15 i)) = T 9 i) ∧ T 10 i = S 21 (S 15 i) ∧ T 11 i = S 21 (S 15 i) + S 13 i ∧ T 12 i = S 22 (S 15 i) ∧ T 13 i = S 26 (S 15 i) ∧ ow (S 15 i) = i ∧ S 27 (S 15 i) = 1000000)) ∧
  (mplf (mpF T i) (T 15 i).toNat = (pts S 513 (S 15 i)).take 8 ∧ 0 ≤ T 15 i ∧ S 17 i = spP S 513 0 (S 15 i) ∧ S 18 i = spQ S 513 0 (S 15 i))
def SK1 (n : Int) (S : St) (ow : Int → Int) (j : Int) : Prop := (0 ≤ ow j ∧ ow j < n) ∧ j ≤ S 15 (ow j) ∧ (j ≠ S 15 (ow j) → S 27 j ≤ S 20 (S 15 (ow j))) ∧ (0 ≤ S 24 j → S 20 j < S 27 (S 24 j)) ∧ S 20 j < S 8 0 ∧ S 21 j ≤ S 7 0
def SM1 (S T : St) (ow : Int → Int) (k : Int) : Prop := T 19 k = ow (S 31 k) ∧ T 20 k = S 30 k + 1 ∧ T 21 k = S 32 k ∧ S 20 (S 31 k) < S 30 k ∧ S 30 k < S 27 (S 31 k) ∧ S 30 k < S 8 0 ∧ S 32 k = lrc S k (S 5 0).toNat
def SimO (n nc nm : Int) (S T : St) (ow : Int → Int) : Prop := (∀ i, 0 ≤ i → i < n → SI1 n S T ow i) ∧ (∀ j, 0 ≤ j → j < nc → SK1 n S ow j) ∧ (∀ i j, 0 ≤ i → i < j → j < nc → S 20 i < S 20 j) ∧ (∀ k, 0 ≤ k → k < nm → SM1 S T ow k) ∧ (∀ (i : Int) (g : Nat), n ≤ i → i < 12 → 8 ≤ g → g ≤ 15 → T g i = 0) ∧ (∀ k, nm ≤ k → T 21 k = 0)
def Sim (c n nc nm : Int) (S T : St) : Prop := IC n nc nm S ∧ ((0 ≤ c ∧ c ≤ 512) ∧ S 7 0 ≤ 999 * c ∧ S 8 0 ≤ c ∧ nc ≤ c ∧ ∀ i, 0 ≤ i → i < n → S 16 i ≤ c) ∧
  (S 5 0 = nc ∧ T 1 0 = S 7 0 ∧ T 2 0 = n ∧ T 3 0 = S 8 0 ∧ T 18 0 = nm ∧ S 6 0 = sm (S 32) nm.toNat) ∧ ∃ ow, SimO n nc nm S T ow
section SIM
variable {c n nc nm : Int} {S T : St}
theorem SI1.len {ow : Int → Int} {i : Int} (h : SI1 n S T ow i) : 0 ≤ T 15 i ∧ T 15 i ≤ 8 := by
  obtain ⟨-, -, -, h1, h2, -⟩ := h
  have h3 := congrArg List.length h1
  rw [mplf_len, List.length_take] at h3
  omega
theorem SI1.pq {ow : Int → Int} {i : Int} (h : SI1 n S T ow i) : S 17 i = pP T i ∧ S 18 i = pQ T i := by
  obtain ⟨-, -, -, h1, h2, h3, h4⟩ := h
  have h5 := sp_take (S := S) 513 0 (S 15 i) (by decide)
  rw [h3, h4, pP, pQ, (mpl_P T i _).1, (mpl_P T i _).2, h1]
  exact h5
theorem Sim.le (h : Sim c n nc nm S T) {c' : Int} (h1 : c ≤ c') (h2 : c' ≤ 512) : Sim c' n nc nm S T := by
  obtain ⟨hI, ⟨h3, h4, h5, h6, h7⟩, h8⟩ := h
  exact ⟨hI, ⟨⟨by omega, h2⟩, by omega, by omega, by omega, fun i a b => by have := h7 i a b; omega⟩, h8⟩
theorem Sim.MI (h : Sim c n nc nm S T) (hc : c ≤ 511) : MI n nm T := by
  obtain ⟨hI, ⟨h3, h4, h5, h6, h7⟩, ⟨t1, t2, t3, t4, t5, t6⟩, ow, hi, hk, hmo, hm, hf⟩ := h
  obtain ⟨hn, hnc, hnm, e3, e4, e5, -, e7, e8⟩ := hI.top
  refine ⟨⟨hn, hnm, t3, t5, by omega, by omega⟩, fun i a b => ?_, fun i j a b d e => ?_, fun k a b => ?_, fun i a b => ?_⟩
  · have hl := (hi i a b).len
    obtain ⟨⟨q4, q5, q6, q7, q14⟩, q15, q16, -⟩ := hi i a b
    obtain ⟨r0, r1, r2, r3, r4, r5, r6, r7, r8⟩ := hI.ins a b
    unfold RT
    rw [q4, q5, q6, q7, q14]
    by_cases c15 : S 15 i < 0
    · obtain ⟨x8, x9, x10, x11, x12, x13⟩ := q15 c15
      rw [x8, x9, x10, x11, x12, x13]
      exact ⟨r4, r1, r2, r3, by decide, by omega, by decide, by decide, by decide, by decide, r6, hl⟩
    · obtain ⟨x8, x9, -, -, x10, x11, x12, x13, -⟩ := q16 (by omega)
      obtain ⟨w0, w1, w2, w3, w4, w5, w6, w7, w8, w9⟩ := hI.kal (show 0 ≤ S 15 i by omega) r5.2
      obtain ⟨-, -, -, -, v5, -⟩ := hk (S 15 i) (by omega) r5.2
      rw [x8, x10, x11, x12, x13]
      exact ⟨r4, r1, r2, r3, by omega, x9, w1, by omega, w2, w6, r6, hl⟩
  · have hl := (hi i a b).len
    obtain ⟨-, -, -, h1, -⟩ := hi i a b
    have r5 := (hI.ins a b).2.2.2.2.2.1
    have h2 := mplf_mem (f := mpF T i) (k := (T 15 i).toNat) d (by omega)
    rw [h1] at h2
    exact pts_r (nc := nc) (fun x x0 x1 => by
      obtain ⟨w0, w1, w2, w3, w4, w5, w6, w7, w8, w9⟩ := hI.kal x0 x1
      exact ⟨w3.2, w8.2, w9⟩) 513 (S 15 i) r5.2 _ (List.mem_of_mem_take h2)
  · obtain ⟨x19, x20, x21, y1, y2, y3, -⟩ := hm k a b
    obtain ⟨w0, w1, w2⟩ := hI.mea a b
    obtain ⟨o1, -⟩ := hk _ w1.1 w1.2
    unfold RU
    rw [x19, x20, x21]
    exact ⟨o1, by omega, w2⟩
  · exact ends_cong (ref := S 14) (fun j x y => (hI.ins x y).2.2.2.2.1) (fun j x y => (hi j x y).1.1) 12 i b (hI.2.2.2.2 i a b)
theorem rcF_n {z u : Int} (hz : u ≠ z) (hc : ¬ (0 < T 8 u ∧ T 9 u ≠ -1 ∧ T 8 (T 9 u) < T 8 u)) : ¬ ∃ f, rcF T z f u = 1 := by
  rintro ⟨f, hf⟩
  cases f with
  | zero => cases hf
  | succ k => rw [rcF, if_neg hz, if_neg hc] at hf; cases hf
theorem rcF_y {z u : Int} (hz : u ≠ z) (hc : 0 < T 8 u ∧ T 9 u ≠ -1 ∧ T 8 (T 9 u) < T 8 u) : (∃ f, rcF T z f u = 1) ↔ ∃ f, rcF T z f (T 9 u) = 1 := by
  constructor
  · rintro ⟨f, hf⟩
    cases f with
    | zero => cases hf
    | succ k => rw [rcF, if_neg hz, if_pos hc] at hf; exact ⟨k, hf⟩
  · rintro ⟨f, hf⟩
    exact ⟨f + 1, by rw [rcF, if_neg hz, if_pos hc]; exact hf⟩
/-- what rests on the last calibration of z is what z reaches -/
theorem K_ins {ow : Int → Int} (hI : IC n nc nm S) (hm8 : S 8 0 ≤ 512) (hO : SimO n nc nm S T ow) {z : Int} (hz : 0 ≤ z ∧ z < n) (hF : 0 ≤ S 15 z) : ∀ (q : Nat) (u : Int), 0 ≤ u → u < n → 0 ≤ S 15 u → (S 15 u).toNat = q → (rst S (S 15 z) (S 8 0) 513 (S 15 u) = 1 ↔ ∃ f, rcF T z f u = 1) := by
  obtain ⟨hi, hk, hmo, hm, hf⟩ := hO
  obtain ⟨hn, hnc, -⟩ := hI.top
  intro q
  induction q using Nat.strongRecOn with
  | ind q ih =>
    intro u u0 u1 ha hq
    obtain ⟨-, -, d, -⟩ := hi u u0 u1
    obtain ⟨d8, d9, d9a, d9b, -, -, -, -, dow, d27⟩ := d ha
    obtain ⟨-, -, dz, -⟩ := hi z hz.1 hz.2
    obtain ⟨-, -, -, -, -, -, -, -, zow, z27⟩ := dz hF
    have hau := (hI.ins u0 u1).2.2.2.2.2.1.2
    have haz := (hI.ins hz.1 hz.2).2.2.2.2.2.1.2
    obtain ⟨g0, g1, g2, g3, g4, g5, g6, g7, g8, g9⟩ := hI.kal ha hau
    by_cases huz : u = z
    · subst huz
      exact ⟨fun _ => ⟨1, by rw [rcF, if_pos rfl]⟩, fun _ => rst_e hF rfl⟩
    · have hne : S 15 u ≠ S 15 z := fun e => huz (by rw [← dow, e, zow])
      rw [rst_s (k := 512) ha hne (by omega)]
      by_cases h9 : T 9 u = -1
      · have hb := d9a h9
        rw [rst_n hb]
        exact ⟨fun h => absurd h (by decide), fun h => absurd h (rcF_n huz (fun x => x.2.1 h9))⟩
      · obtain ⟨hb, hob⟩ := d9b h9
        obtain ⟨b1, b2, b3, b4, b5, b6⟩ := hk (S 24 (S 15 u)) hb (by omega)
        obtain ⟨a1, a2, a3, a4, a5, a6⟩ := hk (S 15 u) ha hau
        have a7 := a4 hb
        rw [hob] at b1 b2 b3
        have hl := (hI.ins b1.1 b1.2).2.2.2.2.2.1.2
        obtain ⟨-, -, e, -⟩ := hi (T 9 u) b1.1 b1.2
        obtain ⟨e8, -, -, -, -, -, -, -, eow, e27⟩ := e (by omega)
        by_cases hbl : S 24 (S 15 u) = S 15 (T 9 u)
        · have hmo2 := hmo (S 24 (S 15 u)) (S 15 u) hb (by omega) hau
          rw [hbl] at hmo2
          rw [rcF_y huz ⟨by omega, h9, by omega⟩, hbl, rst_fuel (nc := nc) (fun j x y => (hI.kal x y).2.2.2.2.1.2) 512 513 (S 15 (T 9 u)) hl (by omega) (by omega)]
          exact ih (S 15 (T 9 u)).toNat (by omega) (T 9 u) b1.1 b1.2 (by omega) rfl
        · have h27 := b3 hbl
          have hbF : S 24 (S 15 u) ≠ S 15 z := fun e => hbl (by
            rw [e, zow] at hob
            rw [e, ← hob])
          have hm2 := (hk (S 15 (T 9 u)) (by omega) hl).2.2.2.2.1
          rw [rst_o (k := 511) hb hbF (by omega)]
          exact ⟨fun h => absurd h (by decide), fun h => absurd h (rcF_n huz (fun x => by have := x.2.2; omega))⟩
theorem K_cal {ow : Int → Int} (hI : IC n nc nm S) (hm8 : S 8 0 ≤ 512) (hO : SimO n nc nm S T ow) {z : Int} (hz : 0 ≤ z ∧ z < n) (hF : 0 ≤ S 15 z) {b : Int} (hb : 0 ≤ b ∧ b < nc) : rst S (S 15 z) (S 8 0) 513 b = 1 ↔ (b = S 15 (ow b) ∧ ∃ f, rcF T z f (ow b) = 1) := by
  obtain ⟨o1, o2, o3, -⟩ := hO.2.1 b hb.1 hb.2
  by_cases hl : b = S 15 (ow b)
  · have := K_ins hI hm8 hO hz hF (S 15 (ow b)).toNat (ow b) o1.1 o1.2 (by omega) rfl
    rw [← hl] at this
    rw [this]
    exact ⟨fun h => ⟨hl, h⟩, fun h => h.2⟩
  · have h27 := o3 hl
    have haz := (hI.ins hz.1 hz.2).2.2.2.2.2.1.2
    have hbz : b ≠ S 15 z := fun e => hl (by
      have hzo := (hO.1 z hz.1 hz.2).2.2.1 hF
      rw [e, hzo.2.2.2.2.2.2.2.2.1])
    have hl2 := (hI.ins o1.1 o1.2).2.2.2.2.2.1.2
    have hm2 := (hO.2.1 (S 15 (ow b)) (by omega) hl2).2.2.2.2.1
    rw [rst_o (k := 512) hb.1 hbz (by omega)]
    exact ⟨fun h => absurd h (by decide), fun h => absurd h.1 hl⟩
theorem K_mea {ow : Int → Int} (hI : IC n nc nm S) (hm8 : S 8 0 ≤ 512) (hO : SimO n nc nm S T ow) {z : Int} (hz : 0 ≤ z ∧ z < n) (hF : 0 ≤ S 15 z) {b : Nat} (hB : ∀ u, 0 ≤ u → u < n → (hs b u = 1 ↔ ∃ f, rcF T z f u = 1)) {k : Int} (hk : 0 ≤ k ∧ k < nm) : rqI T b k = stk S (S 15 z) k := by
  obtain ⟨m19, m20, m21, m1, m2, m3, -⟩ := hO.2.2.2.1 k hk.1 hk.2
  obtain ⟨-, r31, r32⟩ := hI.mea hk.1 hk.2
  obtain ⟨o1, o2, o3, -⟩ := hO.2.1 (S 31 k) r31.1 r31.2
  have hl2 := (hI.ins o1.1 o1.2).2.2.2.2.2.1.2
  obtain ⟨-, -, e, -⟩ := hO.1 (ow (S 31 k)) o1.1 o1.2
  obtain ⟨e8, -⟩ := e (by omega)
  have h1 := K_cal hI hm8 hO hz hF r31
  unfold rqI stk
  rw [m19, m20, m21, e8]
  by_cases h32 : S 32 k = 0
  · rw [if_pos h32]
    by_cases hr : rst S (S 15 z) (S 8 0) 513 (S 31 k) = 1
    · obtain ⟨g1, g2⟩ := h1.mp hr
      rw [hr]
      exact tf_t ⟨(hB _ o1.1 o1.2).mpr g2, by rw [← g1]; omega, h32⟩
    · rw [rst_01 hr]
      refine tf_f fun x => hr (h1.mpr ⟨?_, (hB _ o1.1 o1.2).mp x.1⟩)
      refine Classical.byContradiction fun hl => ?_
      have := o3 hl
      have := x.2.1
      omega
  · rw [if_neg h32]
    exact tf_f fun x => h32 x.2.2
end SIM
