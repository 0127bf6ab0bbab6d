/-! THE PURE PART: room at a node -/
theorem cLast_spec (V : xV) (od : Nat → Nat) (n k : Nat) : (cLast V od n k = 0 → ∀ j, j < k → ¬ (0 < V (20 + 4 * od j + 1) n ∧ ¬ V (20 + 4 * od j) 7 = nI n)) ∧ (∀ m, cLast V od n k = m + 1 → m < k ∧ (0 < V (20 + 4 * od m + 1) n ∧ ¬ V (20 + 4 * od m) 7 = nI n) ∧ ∀ j, m < j → j < k → ¬ (0 < V (20 + 4 * od j + 1) n ∧ ¬ V (20 + 4 * od j) 7 = nI n)) := by
  induction k with
  | zero => exact ⟨fun _ j hj => absurd hj (Nat.not_lt_zero j), fun m hm => absurd hm (by show ¬ (0 = m + 1); omega)⟩
  | succ k ih =>
    by_cases c : 0 < V (20 + 4 * od k + 1) n ∧ ¬ V (20 + 4 * od k) 7 = nI n
    · rw [cLast_t c.1 c.2]
      refine ⟨fun z => absurd z (by omega), fun m hm => ?_⟩
      have e : m = k := by omega
      subst e
      exact ⟨by omega, c, fun j h1 h2 => absurd h2 (by omega)⟩
    · rw [cLast_f c]
      refine ⟨fun z j hj => ?_, fun m hm => ?_⟩
      · by_cases e : j = k
        · subst e; exact c
        · exact ih.1 z j (by omega)
      · obtain ⟨a1, a2, a3⟩ := ih.2 m hm
        refine ⟨by omega, a2, fun j h1 h2 => ?_⟩
        by_cases e : j = k
        · subst e; exact c
        · exact a3 j h1 (by omega)
section RelR
variable {nb nc t : Nat} {od : Nat → Nat} {V Vm : xV}
theorem Rel.pre_trans (h : Rel nb nc t od V Vm) (hb : nb ≤ 40) {x y z : Nat} (hx : x < nb) (hy : y < nb) (hz : z < nb) (h1 : mPre Vm x y = true) (h2 : mPre Vm y z = true) : mPre Vm x z = true := by
  rw [h.pre_bef hx hy hb] at h1
  rw [h.pre_bef hy hz hb] at h2
  rw [h.pre_bef hx hz hb]
  exact bBef_trans h1 h2
theorem Rel.pre_total (h : Rel nb nc t od V Vm) (hb : nb ≤ 40) {x y : Nat} (hx : x < nb) (hy : y < nb) (h1 : ¬ mPre Vm x y = true) (hne : x ≠ y) : mPre Vm y x = true := by
  rw [h.pre_bef hx hy hb] at h1
  rw [h.pre_bef hy hx hb]
  refine bBef_total h1 (fun z => hne ?_)
  rw [(h.rk x hx).1, (h.rk y hy).1] at z
  exact (nI_eq (by omega) (by omega)).mp z
theorem Rel.lst_m (h : Rel nb nc t od V Vm) (hb : nb ≤ 40) (n K : Nat) (hK : K ≤ nb) : (mLast Vm n K = 0 → ∀ k, k < K → ¬ (mHas Vm n k = true ∧ Vm 3 k ≠ nI n)) ∧ (∀ f, mLast Vm n K = f + 1 → f < K ∧ (mHas Vm n f = true ∧ Vm 3 f ≠ nI n) ∧ ∀ k, k < K → (mHas Vm n k = true ∧ Vm 3 k ≠ nI n) → k = f ∨ mPre Vm k f = true) := by
  induction K with
  | zero => exact ⟨fun _ j hj => absurd hj (Nat.not_lt_zero j), fun m hm => absurd hm (by show ¬ (0 = m + 1); omega)⟩
  | succ K ih =>
    obtain ⟨i1, i2⟩ := ih (by omega)
    by_cases c : mHas Vm n K = true ∧ Vm 3 K ≠ nI n
    · by_cases d : mLast Vm n K = 0 ∨ mPre Vm (mLast Vm n K - 1) K = true
      · rw [mLast_t c.1 c.2 d]
        refine ⟨fun z => absurd z (by omega), fun f hf => ?_⟩
        have e : f = K := by omega
        subst e
        refine ⟨by omega, c, fun k hk hS => ?_⟩
        by_cases e2 : k = f
        · exact Or.inl e2
        · right
          cases hm : mLast Vm n f with
          | zero => exact absurd hS (i1 hm k (by omega))
          | succ g =>
            obtain ⟨g1, g2, g3⟩ := i2 g hm
            rw [hm] at d
            have d : mPre Vm g f = true := by
              rcases d with d | d
              · exact absurd d (by omega)
              · exact d
            rcases g3 k (by omega) hS with rfl | q
            · exact d
            · exact h.pre_trans hb (show k < nb by omega) (show g < nb by omega) (show f < nb by omega) q d
      · rw [mLast_f (fun z => d z.2.2)]
        refine ⟨fun z => absurd (Or.inl z) d, fun f hf => ?_⟩
        obtain ⟨g1, g2, g3⟩ := i2 f hf
        refine ⟨by omega, g2, fun k hk hS => ?_⟩
        by_cases e2 : k = K
        · subst e2
          right
          refine h.pre_total hb (show f < nb by omega) (show k < nb by omega) (fun z => d (Or.inr ?_)) (by omega)
          rw [hf]; exact z
        · exact g3 k (by omega) hS
    · rw [mLast_f (fun z => c ⟨z.1, z.2.1⟩)]
      refine ⟨fun z k hk => ?_, fun f hf => ?_⟩
      · by_cases e : k = K
        · subst e; exact c
        · exact i1 z k (by omega)
      · obtain ⟨g1, g2, g3⟩ := i2 f hf
        refine ⟨by omega, g2, fun k hk hS => ?_⟩
        by_cases e : k = K
        · subst e; exact absurd hS c
        · exact g3 k (by omega) hS
theorem Rel.sel (h : Rel nb nc t od V Vm) {n k : Nat} (hn : n < 8) (hk : k < nb) : (mHas Vm n k = true ∧ Vm 3 k ≠ nI n) ↔ (0 < V (20 + 4 * k + 1) n ∧ ¬ V (20 + 4 * k) 7 = nI n) := by
  rw [h.has hn hk, (h.rk k hk).2.2.2.2.1]
  unfold cHas
  rw [decide_eq_true_eq]
theorem Rel.lst (h : Rel nb nc t od V Vm) (hb : nb ≤ 40) {n : Nat} (hn : n < 8) : (cLast V od n nb = 0 ∧ mLast Vm n nb = 0) ∨ ∃ j, j < nb ∧ cLast V od n nb = j + 1 ∧ mLast Vm n nb = od j + 1 := by
  obtain ⟨c1, c2⟩ := cLast_spec V od n nb
  obtain ⟨m1, m2⟩ := h.lst_m hb n nb (Nat.le_refl _)
  cases hc : cLast V od n nb with
  | zero =>
    left
    refine ⟨rfl, ?_⟩
    cases hm : mLast Vm n nb with
    | zero => rfl
    | succ f =>
      obtain ⟨g1, g2, -⟩ := m2 f hm
      obtain ⟨i, hi, rfl⟩ := h.od_sur g1
      exact absurd ((h.sel hn g1).mp g2) (c1 hc i hi)
  | succ j =>
    right
    obtain ⟨a1, a2, a3⟩ := c2 j hc
    have s := (h.sel hn (h.od_lt a1)).mpr a2
    refine ⟨j, a1, rfl, ?_⟩
    cases hm : mLast Vm n nb with
    | zero => exact absurd s (m1 hm (od j) (h.od_lt a1))
    | succ f =>
      obtain ⟨g1, g2, g3⟩ := m2 f hm
      obtain ⟨i, hi, rfl⟩ := h.od_sur g1
      congr 1
      have nij : ¬ j < i := fun z => a3 i z hi ((h.sel hn g1).mp g2)
      rcases g3 (od j) (h.od_lt a1) s with q | q
      · exact q.symm
      · rw [h.pre hb a1 hi, decide_eq_true_eq] at q
        exact absurd q nij
/-- a node leaves a bundle -/
theorem Rel.leave (h : Rel nb nc t od V Vm) (hb : nb ≤ 40) {n k : Nat} (hn : n < 8) (hk : k < nb) : Rel nb nc t od (bPut V (20 + 4 * k) n 0 0) (xu Vm 6 (40 * n + k) 0) := by
  obtain ⟨k1, k2, k3, k4, k5, k6, k7, k8⟩ := h.rk k hk
  have o : ∀ i, i ≠ 20 + 4 * k + 1 → i ≠ 20 + 4 * k + 2 → bPut V (20 + 4 * k) n 0 0 i = V i := fun i a b => bPut_o _ _ _ _ _ a b
  have m : ∀ i, i ≠ 6 → xu Vm 6 (40 * n + k) 0 i = Vm i := fun i a => xu_ne _ _ _ a
  refine h.one hb k hk (fun i hi => o _ (by omega) (by omega)) (fun k' e j hj => o _ (by omega) (by omega)) (fun i hi => by rw [o _ (by omega) (by omega)]) (fun i _ _ _ _ a _ _ => m i a) (m _ (by decide)) (fun k' e => ?_) (fun m' k' hm hk' e => ?_) ?_ (fun m' hm => ?_)
  · rw [m _ (by decide), m _ (by decide), m _ (by decide)]
    exact ⟨rfl, rfl, rfl⟩
  · rw [xu_row, if_neg (by omega), m _ (by decide), m _ (by decide)]
    exact ⟨rfl, rfl, rfl⟩
  · rw [m _ (by decide), m _ (by decide), m _ (by decide), o _ (by omega) (by omega)]
    exact ⟨k5, k6, k7, k8⟩
  · have r := h.rn m' hm k hk
    have p1 : ∀ j, bPut V (20 + 4 * k) n 0 0 (20 + 4 * k + 1) j = if j = n then 0 else V (20 + 4 * k + 1) j := fun j => by unfold bPut; rw [xu_ne _ _ _ (by omega), xu_row]
    have p2 : ∀ j, bPut V (20 + 4 * k) n 0 0 (20 + 4 * k + 2) j = if j = n then 0 else V (20 + 4 * k + 2) j := fun j => by unfold bPut; rw [xu_row, xu_ne _ _ _ (by omega)]
    unfold RelN at r ⊢
    rw [xu_row, m 8 (by decide), m 7 (by decide), p1, p2, o (20 + 4 * k + 3) (by omega) (by omega), o (20 + 4 * k) (by omega) (by omega)]
    obtain ⟨n1, n2, n3, n4, n5, n6⟩ := r
    by_cases e : m' = n
    · subst e
      simp only [if_pos]
      exact ⟨trivial, ⟨0, by omega, rfl⟩, n3, n4, fun z => absurd z (by decide), fun z => ⟨trivial, (n6 z).2⟩⟩
    · rw [if_neg (show ¬ 40 * m' + k = 40 * n + k by omega), if_neg e, if_neg e]
      exact ⟨n1, n2, n3, n4, n5, n6⟩
theorem Rel.cnt2 (h : Rel nb nc t od V Vm) {n : Nat} (hn : n < 8) : Rel nb nc t od (xu V 2 n (V 2 n + 1)) (xu Vm 10 n (Vm 10 n + 1)) := by
  have o : ∀ i, i ≠ 2 → xu V 2 n (V 2 n + 1) i = V i := fun i a => xu_ne _ _ _ a
  have m : ∀ i, i ≠ 10 → xu Vm 10 n (Vm 10 n + 1) i = Vm i := fun i a => xu_ne _ _ _ a
  refine h.bun (fun i _ a _ => o i a) (fun i hi => m i (by omega)) (fun k i hi => by rw [o _ (by omega)]) (fun n' hn' => ?_) (fun k hk => ?_) (fun n' hn' k hk => ?_) (fun k hk1 hk2 => ?_)
  · rw [m 11 (by decide), o 3 (by decide), xu_row, xu_row, (h.rd n' hn').2.1, (h.rd n hn).2.1]
    exact ⟨rfl, (h.rd n' hn').2.2⟩
  · obtain ⟨k1, k2, k3, k4, k5, k6, k7, k8⟩ := h.rk k hk
    rw [m _ (by decide), m _ (by decide), m _ (by decide), o _ (by omega)]
    exact ⟨k5, k6, k7, k8⟩
  · have r := h.rn n' hn' k hk
    unfold RelN at r ⊢
    rw [m _ (by decide), m _ (by decide), m _ (by decide), o _ (by omega), o _ (by omega), o _ (by omega), o _ (by omega)]
    exact r
  · rw [m _ (by decide), m _ (by decide), m _ (by decide), m _ (by decide)]
    exact h.fr k hk1 hk2
theorem Rel.cnt3 (h : Rel nb nc t od V Vm) {n : Nat} (hn : n < 8) : Rel nb nc t od (xu V 3 n (V 3 n + 1)) (xu Vm 11 n (Vm 11 n + 1)) := by
  have o : ∀ i, i ≠ 3 → xu V 3 n (V 3 n + 1) i = V i := fun i a => xu_ne _ _ _ a
  have m : ∀ i, i ≠ 11 → xu Vm 11 n (Vm 11 n + 1) i = Vm i := fun i a => xu_ne _ _ _ a
  refine h.bun (fun i _ _ a => o i a) (fun i hi => m i (by omega)) (fun k i hi => by rw [o _ (by omega)]) (fun n' hn' => ?_) (fun k hk => ?_) (fun n' hn' k hk => ?_) (fun k hk1 hk2 => ?_)
  · rw [m 10 (by decide), o 2 (by decide), xu_row, xu_row, (h.rd n' hn').2.2, (h.rd n hn).2.2]
    exact ⟨(h.rd n' hn').2.1, rfl⟩
  · obtain ⟨k1, k2, k3, k4, k5, k6, k7, k8⟩ := h.rk k hk
    rw [m _ (by decide), m _ (by decide), m _ (by decide), o _ (by omega)]
    exact ⟨k5, k6, k7, k8⟩
  · have r := h.rn n' hn' k hk
    unfold RelN at r ⊢
    rw [m _ (by decide), m _ (by decide), m _ (by decide), o _ (by omega), o _ (by omega), o _ (by omega), o _ (by omega)]
    exact r
  · rw [m _ (by decide), m _ (by decide), m _ (by decide), m _ (by decide)]
    exact h.fr k hk1 hk2
theorem Rel.roomB (h : Rel nb nc t od V Vm) (hb : nb ≤ 40) {n : Nat} (hn : n < 8) (p : Int32) : mRoomB Vm n p nb = cRoomB V od n p nb := by
  unfold mRoomB cRoomB
  rw [(h.rd n hn).1, h.cnt hn]
  by_cases c : V 1 n ≤ nI (cntP (cHas V n) nb)
  · rw [if_pos c, if_pos c]
    rcases h.lst hb hn with ⟨e1, e2⟩ | ⟨j, hj, e1, e2⟩
    · rw [e1, e2, if_pos rfl, if_pos rfl]
    · rw [e1, e2, if_neg (Nat.succ_ne_zero _), if_neg (Nat.succ_ne_zero _), Nat.add_sub_cancel, Nat.add_sub_cancel, (h.rk (od j) (h.od_lt hj)).2.2.1]
  · rw [if_neg c, if_neg c]
theorem Rel.roomV (h : Rel nb nc t od V Vm) (hb : nb ≤ 40) {n : Nat} (hn : n < 8) (p : Int32) : Rel nb nc t od (cRoomV V od n p nb) (mRoomV Vm n p nb) := by
  unfold mRoomV cRoomV
  rw [(h.rd n hn).1, h.cnt hn]
  by_cases c : V 1 n ≤ nI (cntP (cHas V n) nb)
  · rw [if_pos c, if_pos c]
    rcases h.lst hb hn with ⟨e1, e2⟩ | ⟨j, hj, e1, e2⟩
    · rw [e1, e2, if_pos rfl, if_pos rfl]
      exact h
    · rw [e1, e2, if_neg (Nat.succ_ne_zero _), if_neg (Nat.succ_ne_zero _), Nat.add_sub_cancel, Nat.add_sub_cancel, (h.rk (od j) (h.od_lt hj)).2.2.1]
      by_cases d : V (20 + 4 * od j) 2 < p
      · rw [if_pos d, if_pos d]
        have z := (h.leave hb hn (h.od_lt hj)).cnt2 hn
        rw [bPut_o _ _ _ _ _ (show 2 ≠ 20 + 4 * od j + 1 by omega) (show 2 ≠ 20 + 4 * od j + 2 by omega), xu_ne _ _ _ (show 10 ≠ 6 by decide)] at z
        exact z
      · rw [if_neg d, if_neg d]
        exact h
  · rw [if_neg c, if_neg c]
    exact h
end RelR
