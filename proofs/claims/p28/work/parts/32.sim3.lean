/-! ===== the answers are the same ===== -/
theorem sm_ext {f : Int → Int} {m : Nat} : ∀ {k : Nat}, m ≤ k → (∀ i : Int, m ≤ i → i < k → f i = 0) → sm f k = sm f m
  | 0, h, _ => by rw [Nat.le_zero.mp h]
  | k + 1, h, hz => by
    by_cases e : m = k + 1
    · rw [e]
    · show sm f k + f k = sm f m
      rw [sm_ext (k := k) (by omega) fun i a b => hz i a (by omega), hz k (by omega) (by omega), Int.add_zero]
section SIMA
variable {c n nc nm : Int} {S T : St}
theorem Sim.ow (h : Sim c n nc nm S T) : ∃ ow, SimO n nc nm S T ow := h.2.2.2
theorem Sim.ins (h : Sim c n nc nm S T) {i : Int} (h0 : 0 ≤ i) (h1 : i < n) : ∃ ow, SI1 n S T ow i := by
  obtain ⟨ow, hO⟩ := h.ow
  exact ⟨ow, hO.1 i h0 h1⟩
theorem Sim.col (h : Sim c n nc nm S T) {i : Int} (h0 : 0 ≤ i) (h1 : i < n) : T 4 i = S 14 i ∧ T 5 i = S 11 i ∧ T 6 i = S 12 i ∧ T 7 i = S 13 i ∧ T 14 i = S 16 i := (h.ins h0 h1).elim fun _ g => g.1
theorem Sim.top (h : Sim c n nc nm S T) : S 5 0 = nc ∧ T 1 0 = S 7 0 ∧ T 2 0 = n ∧ T 3 0 = S 8 0 ∧ T 18 0 = nm ∧ S 6 0 = sm (S 32) nm.toNat := h.2.2.1
theorem Sim.cal (h : Sim c n nc nm S T) {i : Int} (h0 : 0 ≤ i) (h1 : i < n) : 0 < T 8 i ↔ 0 ≤ S 15 i := by
  obtain ⟨ow, -, g1, g2, -⟩ := h.ins h0 h1
  by_cases c : S 15 i < 0
  · have := (g1 c).1
    omega
  · have := (g2 (by omega)).1
    have := (h.1.kal (show 0 ≤ S 15 i by omega) (h.1.ins h0 h1).2.2.2.2.2.1.2).1
    omega
theorem Sim.due (h : Sim c n nc nm S T) {i : Int} (h0 : 0 ≤ i) (h1 : i < n) (hc : 0 ≤ S 15 i) : T 11 i = Jvm.Pilot.CCalibratoryLaw_law_r5981_98d5a5.due S i := by
  obtain ⟨ow, -, -, g2, -⟩ := h.ins h0 h1
  exact (g2 hc).2.2.2.2.2.1
theorem Sim.sus (h : Sim c n nc nm S T) {i : Int} (h0 : 0 ≤ i) (h1 : i < n) : T 13 i = tf (0 ≤ S 15 i ∧ S 26 (S 15 i) = 1) := by
  obtain ⟨ow, -, g1, g2, -⟩ := h.ins h0 h1
  by_cases c : S 15 i < 0
  · rw [(g1 c).2.2.2.2.2, tf_f (by omega)]
  · rw [(g2 (by omega)).2.2.2.2.2.2.2.1]
    have := (h.1.kal (show 0 ≤ S 15 i by omega) (h.1.ins h0 h1).2.2.2.2.2.1.2).2.2.2.2.2.2.1
    by_cases e : S 26 (S 15 i) = 1
    · rw [tf_t ⟨by omega, e⟩, e]
    · rw [tf_f (fun z => e z.2)]; omega
theorem Sim.inF (h : Sim c n nc nm S T) {i : Int} (h0 : 0 ≤ i) (h1 : i < n) : inM T i = Jvm.Pilot.CCalibratoryLaw_law_r5981_98d5a5.inF S i := by
  have h2 := h.cal h0 h1
  have h3 := h.sus h0 h1
  have h4 := h.due h0 h1
  have h5 := h.top.2.1
  unfold inM Jvm.Pilot.CCalibratoryLaw_law_r5981_98d5a5.inF
  refine tf_eq ?_
  rw [h2, h3, h5]
  by_cases c : 0 ≤ S 15 i
  · rw [h4 c]
    have := (h.1.kal c (h.1.ins h0 h1).2.2.2.2.2.1.2).2.2.2.2.2.2.1
    by_cases e : S 26 (S 15 i) = 1
    · rw [tf_t ⟨c, e⟩]
      constructor
      · rintro ⟨-, -, g⟩; omega
      · rintro ⟨-, -, g⟩; omega
    · rw [tf_f (fun z => e z.2)]
      unfold Jvm.Pilot.CCalibratoryLaw_law_r5981_98d5a5.due
      constructor
      · rintro ⟨a, b, -⟩; exact ⟨a, b, by omega⟩
      · rintro ⟨a, b, -⟩; exact ⟨a, b, rfl⟩
  · exact ⟨fun g => absurd g.1 c, fun g => absurd g.1 c⟩
theorem Sim.refs (h : Sim c n nc nm S T) : ∀ i, 0 ≤ i → i < n → -1 ≤ S 14 i ∧ S 14 i < n := fun _ a b => (h.1.ins a b).2.2.2.2.1
theorem Sim.fof (h : Sim c n nc nm S T) {u : Int} (hu : u < n) : fof (T 4) (inM T) 12 u = Jvm.Pilot.CCalibratoryLaw_law_r5981_98d5a5.fof (S 14) (Jvm.Pilot.CCalibratoryLaw_law_r5981_98d5a5.inF S) 12 u :=
  fof_cong h.refs (fun i a b => ⟨(h.col a b).1, h.inF a b⟩) 12 u hu
theorem Sim.inCh (h : Sim c n nc nm S T) {u i : Int} (hu : u < n) : inCh (T 4) 12 u i = Jvm.Pilot.CCalibratoryLaw_law_r5981_98d5a5.inCh (S 14) 12 u i := inCh_cong h.refs (fun i a b => (h.col a b).1) 12 u i hu
theorem Sim.len (h : Sim c n nc nm S T) {u : Int} (hu : u < n) : len (T 4) 12 u = Jvm.Pilot.CCalibratoryLaw_law_r5981_98d5a5.len (S 14) 12 u := len_cong h.refs (fun i a b => (h.col a b).1) 12 u hu
theorem Sim.unc (h : Sim c n nc nm S T) {u : Int} (hu : u < n) : unc (T 4) (T 6) 12 u = Jvm.Pilot.CCalibratoryLaw_law_r5981_98d5a5.unc (S 14) (S 12) 12 u := unc_cong h.refs (fun i a b => ⟨(h.col a b).1, (h.col a b).2.2.1⟩) 12 u hu
theorem Sim.pq (h : Sim c n nc nm S T) {i : Int} (h0 : 0 ≤ i) (h1 : i < n) : S 17 i = pP T i ∧ S 18 i = pQ T i := (h.ins h0 h1).elim fun _ g => g.pq
theorem Sim.err (h : Sim c n nc nm S T) {z d : Int} (h0 : 0 ≤ z) (h1 : z < n) (hc : 0 ≤ S 15 z) : errM T z d = errS S z (S 15 z) d := by
  obtain ⟨e1, e2⟩ := h.pq h0 h1
  obtain ⟨ow, -, -, g2, -⟩ := h.ins h0 h1
  have e3 := (g2 hc).2.2.2.2.2.2.1
  unfold errM errS
  rw [e1, e2, e3]
theorem Sim.dr (h : Sim c n nc nm S T) {z : Int} (h0 : 0 ≤ z) (h1 : z < n) : (if 0 < T 8 z then drF (oM T z) 10000 0 else -1) = drS S z := by
  have h2 := h.cal h0 h1
  unfold drS
  by_cases c : S 15 z < 0
  · rw [if_neg (by omega), if_pos c]
  · rw [if_pos (by omega), if_neg c]
    have e : oM T z = oS S z (S 15 z) := by
      funext d
      unfold oM oS
      rw [h.err h0 h1 (by omega), (h.col h0 h1).2.1]
    rw [e]
theorem Sim.cld (h : Sim c n nc nm S T) {k : Int} (h0 : 0 ≤ k) (h1 : k < nm) : T 21 k = S 32 k ∧ S 32 k = lrc S k (S 5 0).toNat := by
  obtain ⟨ow, hO⟩ := h.ow
  obtain ⟨-, -, g, -, -, -, g2⟩ := hO.2.2.2.1 k h0 h1
  exact ⟨g, g2⟩
theorem Sim.cb (h : Sim c n nc nm S T) : sm (T 21) nm.toNat = S 6 0 ∧ sm (fun i => lrc S i (S 5 0).toNat) nm.toNat = S 6 0 := by
  have hn := h.1.top.2.2.1
  constructor
  · rw [h.top.2.2.2.2.2]
    exact sm_cong fun i a b => (h.cld a (by omega)).1
  · rw [h.top.2.2.2.2.2]
    exact sm_cong fun i a b => (h.cld a (by omega)).2.symm
theorem Sim.stake (h : Sim c n nc nm S T) {z : Int} (h0 : 0 ≤ z) (h1 : z < n) (hc : 0 ≤ S 15 z) {b : Nat} (hB : ∀ u, 0 ≤ u → u < n → (hs b u = 1 ↔ ∃ f, rcF T z f u = 1)) : cnM T b nm = sm (stk S (S 15 z)) nm.toNat := by
  obtain ⟨ow, hO⟩ := h.ow
  have hn := h.1.top.2.2.1
  exact sm_cong fun i a b => K_mea h.1 h.1.top.2.2.2.2.2.2.2.2.2 hO ⟨h0, h1⟩ hc hB ⟨a, by omega⟩
theorem Sim.ahd (h : Sim c n nc nm S T) {z : Int} (h0 : 0 ≤ z) (h1 : z < n) (hc : 0 ≤ S 15 z) : sm (ahm T z) n.toNat = Jvm.Pilot.CCalibratoryLaw_law_r5981_98d5a5.ahd S z := by
  have hn := h.1.top.1
  have e3 := h.1.top.2.2.2.1
  rw [Jvm.Pilot.CCalibratoryLaw_law_r5981_98d5a5.ahd, sm_ext (m := n.toNat) (k := 12) (by omega) (fun i a b => by rw [ahc]; exact tf_f (by omega))]
  refine sm_cong fun i a b => ?_
  unfold ahm ahc
  have h2 := h.cal a (show i < n by omega)
  refine tf_eq ?_
  rw [h2, h.due h0 h1 hc]
  by_cases c : 0 ≤ S 15 i
  · rw [h.due a (show i < n by omega) c]
    exact ⟨fun g => ⟨by omega, g⟩, fun g => g.2⟩
  · exact ⟨fun g => absurd g.1 c, fun g => absurd g.2.1 c⟩
theorem Sim.dob (h : Sim c n nc nm S T) {z e : Int} (h0 : 0 ≤ z) (h1 : z < n) (hc : 0 ≤ S 15 z) : dob n T z e = S 7 0 + (Jvm.Pilot.CCalibratoryLaw_law_r5981_98d5a5.ahd S z).tdiv e := by
  unfold Jvm.Pilot.CCalibratoryLaw_law_r5981_98d5a5.dob
  rw [h.ahd h0 h1 hc, h.top.2.1]
theorem Sim.late (h : Sim c n nc nm S T) {e : Int} : sm (latm n T e) n.toNat = sm (latc S e) 12 := by
  have hn := h.1.top.1
  have e3 := h.1.top.2.2.2.1
  rw [sm_ext (f := latc S e) (m := n.toNat) (k := 12) (by omega) (fun i a b => by rw [latc]; exact tf_f (by omega))]
  refine sm_cong fun i a b => ?_
  unfold latm latc
  have h2 := h.cal a (show i < n by omega)
  refine tf_eq ?_
  rw [h2]
  by_cases c : 0 ≤ S 15 i
  · rw [h.due a (show i < n by omega) c, h.dob a (show i < n by omega) c]
    exact ⟨fun g => ⟨by omega, g⟩, fun g => g.2⟩
  · exact ⟨fun g => absurd g.1 c, fun g => absurd g.2.1 c⟩
end SIMA
