/-! ===== the bench: who is ahead ===== -/
def bf (S : St) (u v : Int) : Prop := due S u < due S v ∨ (due S u = due S v ∧ u < v)
theorem ahc_le {S : St} {u v : Int} (h : bf S u v) (i : Int) : ahc S u i ≤ ahc S v i := by
  unfold ahc
  by_cases c : i < S 3 0 ∧ 0 ≤ S 15 i ∧ (due S i < due S u ∨ (due S i = due S u ∧ i < u))
  · rw [tf_t c, tf_t ⟨c.1, c.2.1, by
      rcases h with h | h <;> rcases c.2.2 with d | d <;> omega⟩]
    exact Int.le_refl _
  · rw [tf_f c]
    exact (tf_b _).1
theorem ahd_lt {S : St} {u v : Int} (h : bf S u v) (hu : 0 ≤ u ∧ u < S 3 0) (hn : S 3 0 ≤ 12) (hc : 0 ≤ S 15 u) : ahd S u + 1 ≤ ahd S v := by
  unfold ahd
  refine sm_lt (v := u) (fun i _ _ => ahc_le h i) hu.1 (by omega) ?_
  have h1 : ahc S u u = 0 := tf_f fun z => by rcases z.2.2 with d | d <;> omega
  have h2 : ahc S v u = 1 := tf_t ⟨hu.2, hc, h⟩
  omega
theorem bf_tot {S : St} {u v : Int} (h : u ≠ v) : bf S u v ∨ bf S v u := by
  unfold bf
  omega
theorem ahd_inj {S : St} {u v : Int} (hn : S 3 0 ≤ 12) (hu : 0 ≤ u ∧ u < S 3 0) (hv : 0 ≤ v ∧ v < S 3 0) (cu : 0 ≤ S 15 u) (cv : 0 ≤ S 15 v) (e : ahd S u = ahd S v) : u = v := by
  refine Classical.byContradiction fun z => ?_
  rcases bf_tot (S := S) z with h | h
  · have := ahd_lt h hu hn cu; omega
  · have := ahd_lt h hv hn cv; omega
/-- the day on the bench -/
def bd (S : St) (e z : Int) : Int := if S 15 z < 0 then -1 else S 7 0 + (ahd S z).tdiv e
theorem bd_1 {S : St} {e z : Int} (h : S 15 z < 0) : bd S e z = -1 := if_pos h
theorem bd_0 {S : St} {e z : Int} (h : 0 ≤ S 15 z) : bd S e z = S 7 0 + (ahd S z).tdiv e := if_neg (by omega)
theorem tdv {a e q : Int} (ha : 0 ≤ a) (he : 1 ≤ e) : a.tdiv e = q ↔ (e * q ≤ a ∧ a < e * q + e) := by
  rw [Int.tdiv_eq_ediv_of_nonneg ha]
  constructor
  · rintro rfl
    have h1 := Int.mul_ediv_add_emod a e
    have h2 := Int.emod_nonneg a (show e ≠ 0 by omega)
    have h3 := Int.emod_lt_of_pos a (show 0 < e by omega)
    omega
  · rintro ⟨h1, h2⟩
    refine Int.le_antisymm ?_ ?_
    · have := Int.ediv_lt_of_lt_mul (a := a) (b := q + 1) (c := e) (by omega) (by rw [Int.add_mul, Int.mul_comm q e]; omega)
      omega
    · exact Int.le_ediv_of_mul_le (by omega) (by rw [Int.mul_comm]; exact h1)
theorem bd_ge {S : St} {e z : Int} (he : 1 ≤ e) (h : 0 ≤ S 15 z) : S 7 0 ≤ bd S e z ∧ bd S e z ≤ S 7 0 + 12 := by
  rw [bd_0 h]
  have h1 := ahd_b S z
  have h2 := td_r h1 he
  omega
/-- who is on the bench on an earlier day has an earlier due day, or the same -/
theorem bd_due {S : St} {e u v : Int} (hn : S 3 0 ≤ 12) (he : 1 ≤ e) (hv : 0 ≤ v ∧ v < S 3 0) (cu : 0 ≤ S 15 u) (cv : 0 ≤ S 15 v) (h : bd S e u < bd S e v) : due S u ≤ due S v := by
  refine Int.not_lt.mp fun z => ?_
  have h1 := ahd_lt (S := S) (u := v) (v := u) (Or.inl z) hv hn cv
  rw [bd_0 cu, bd_0 cv] at h
  have a1 := (ahd_b S u).1
  have a2 := (ahd_b S v).1
  rw [Int.tdiv_eq_ediv_of_nonneg a1, Int.tdiv_eq_ediv_of_nonneg a2] at h
  have h2 := Int.ediv_le_ediv (a := ahd S v) (b := ahd S u) (c := e) (by omega) (by omega)
  omega
/-- at most e are on the bench on a day -/
theorem bd_same {S : St} {n : Int} (h3 : S 3 0 = n) (hn : 0 ≤ n ∧ n ≤ 12) {e : Int} (he : 1 ≤ e) {day : Int} (hd : day ≠ -1) : sm (fun i => tf (bd S e i = day)) n.toNat ≤ e := by
  obtain ⟨ee, rfl⟩ := Int.eq_ofNat_of_zero_le (show 0 ≤ e by omega)
  have h := sm_row (P := fun i => 0 ≤ S 15 i) (f := ahd S) (k := n.toNat) (fun i j a b c d pi pj e' => ahd_inj (by omega) ⟨a, by omega⟩ ⟨c, by omega⟩ pi pj e') ee (ee * (day - S 7 0))
  refine Int.le_trans (Int.le_of_eq (sm_cong fun i a b => tf_eq ?_)) h
  constructor
  · intro z
    have hc : 0 ≤ S 15 i := Int.not_lt.mp fun q => hd (by rw [← z, bd_1 q])
    rw [bd_0 hc] at z
    exact ⟨hc, (tdv (ahd_b S i).1 he).mp (by omega)⟩
  · rintro ⟨hc, z⟩
    have := (tdv (ahd_b S i).1 he).mpr z
    rw [bd_0 hc]
    omega
theorem latc_bd {S : St} {n e i : Int} (h3 : S 3 0 = n) (h0 : 0 ≤ i) (h1 : i < n) (hc : 0 ≤ S 15 i) : latc S e i = tf (due S i < bd S e i) := by
  rw [bd_0 hc]
  exact tf_eq ⟨fun z => z.2.2, fun z => ⟨by omega, hc, z⟩⟩
theorem latc_n {S : St} {e i : Int} (hc : S 15 i < 0) : latc S e i = 0 := tf_f fun z => by omega
theorem late_n {S : St} {n e : Int} (h3 : S 3 0 = n) (hn : 0 ≤ n ∧ n ≤ 12) : sm (latc S e) 12 = sm (latc S e) n.toNat :=
  sm_ext (m := n.toNat) (by omega) fun i a _ => tf_f fun z => by omega
theorem late_le {S : St} {n e : Int} (h3 : S 3 0 = n) (hn : 0 ≤ n ∧ n ≤ 12) : sm (latc S e) 12 ≤ sm (fun i => tf (0 ≤ S 15 i)) n.toNat := by
  rw [late_n h3 hn]
  refine sm_le fun i a b => ?_
  by_cases c : 0 ≤ S 15 i
  · rw [tf_t c]; exact (tf_b _).2
  · rw [latc_n (by omega), tf_f c]; exact Int.le_refl _
/-! ===== drift ===== -/
theorem drF_spec (o : Int → Int) : ∀ (k : Nat) (d : Int), (drF o k d = -1 ∧ ∀ t, d ≤ t → t < d + k → o t ≠ 1) ∨ (d ≤ drF o k d ∧ drF o k d < d + k ∧ o (drF o k d) = 1 ∧ ∀ t, d ≤ t → t < drF o k d → o t ≠ 1)
  | 0, d => Or.inl ⟨rfl, fun t a b => by omega⟩
  | k + 1, d => by
    by_cases c : o d = 1
    · rw [drF, if_pos c]
      exact Or.inr ⟨Int.le_refl _, by omega, c, fun t a b => by omega⟩
    · rw [drF, if_neg c]
      rcases drF_spec o k (d + 1) with ⟨h1, h2⟩ | ⟨h1, h2, h3, h4⟩
      · refine Or.inl ⟨h1, fun t a b => ?_⟩
        by_cases e : t = d
        · rw [e]; exact c
        · exact h2 t (by omega) (by omega)
      · refine Or.inr ⟨by omega, by omega, h3, fun t a b => ?_⟩
        by_cases e : t = d
        · rw [e]; exact c
        · exact h4 t (by omega) b
theorem drS_spec {S : St} {z : Int} (h : 0 ≤ S 15 z) : (drS S z = -1 ∧ ∀ t, 0 ≤ t → t ≤ 9999 → oS S z (S 15 z) t = 0) ∨ ((0 ≤ drS S z ∧ drS S z ≤ 9999) ∧ oS S z (S 15 z) (drS S z) = 1 ∧ ∀ t, 0 ≤ t → t < drS S z → oS S z (S 15 z) t = 0) := by
  have hb : ∀ t, oS S z (S 15 z) t ≠ 1 → oS S z (S 15 z) t = 0 := fun t q => by
    have : 0 ≤ oS S z (S 15 z) t ∧ oS S z (S 15 z) t ≤ 1 := tf_b _
    omega
  rw [drS, if_neg (by omega)]
  rcases drF_spec (oS S z (S 15 z)) 10000 0 with ⟨h1, h2⟩ | ⟨h1, h2, h3, h4⟩
  · exact Or.inl ⟨h1, fun t a b => hb t (h2 t a (by omega))⟩
  · exact Or.inr ⟨⟨h1, by omega⟩, h3, fun t a b => hb t (h4 t a b)⟩
theorem errS_up {S : St} {u j a b : Int} (hp : 0 ≤ S 17 u ∨ S 18 u ≤ 0) (h : a ≤ b) : errS S u j a ≤ errS S u j b := by
  unfold errS
  split
  · exact Int.le_refl _
  · have h1 : S 17 u * a ≤ S 17 u * b := Int.mul_le_mul_of_nonneg_left h (by omega)
    have h2 := Int.ediv_le_ediv (c := S 18 u) (by omega) h1
    omega
theorem errS_dn {S : St} {u j a b : Int} (hp : S 17 u ≤ 0 ∨ S 18 u ≤ 0) (h : a ≤ b) : errS S u j b ≤ errS S u j a := by
  unfold errS
  split
  · exact Int.le_refl _
  · have h1 : S 17 u * b ≤ S 17 u * a := Int.mul_le_mul_of_nonpos_left (by omega) h
    have h2 := Int.ediv_le_ediv (c := S 18 u) (by omega) h1
    omega
theorem errS_0 {S : St} {u j : Int} : errS S u j 0 = S 22 j := by
  unfold errS
  split
  · rfl
  · rw [Int.mul_zero, Int.zero_ediv, Int.add_zero]
