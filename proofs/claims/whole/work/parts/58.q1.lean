/-! THE PURE PART: what changes one bundle keeps the relation -/
theorem xu_at (V : xV) (i k : Nat) (x : Int32) (j m : Nat) : xu V i k x j m = if j = i ∧ m = k then x else V j m := by
  by_cases h : j = i
  · subst h
    rw [xu_row]
    by_cases e : m = k
    · rw [if_pos e, if_pos ⟨rfl, e⟩]
    · rw [if_neg e, if_neg (fun z => e z.2)]
  · rw [xu_ne _ _ _ h, if_neg (fun z => h z.1)]
theorem nI_m1 {n : Nat} (h : n < 2 ^ 31) : (-1 : Int32) ≠ nI n := by
  intro z
  have q := (i_eq _ _).mp z
  rw [nI_toInt h] at q
  have q1 : (-1 : Int32).toInt = -1 := by decide
  omega
theorem bLearn_1 (V : xV) (b n j : Nat) : bLearn V b n (b + 1) j = if j = n then 0 else V (b + 1) j := by
  unfold bLearn bPut
  split
  · rw [xu_ne _ _ _ (show b + 1 ≠ b by omega), xu_ne _ _ _ (show b + 1 ≠ b + 2 by omega), xu_row, xu_ne _ _ _ (show b + 1 ≠ b + 3 by omega)]
  · rw [xu_ne _ _ _ (show b + 1 ≠ b + 2 by omega), xu_row, xu_ne _ _ _ (show b + 1 ≠ b + 3 by omega)]
theorem bLearn_2 (V : xV) (b n j : Nat) : bLearn V b n (b + 2) j = if j = n then 0 else V (b + 2) j := by
  unfold bLearn bPut
  split
  · rw [xu_ne _ _ _ (show b + 2 ≠ b by omega), xu_row, xu_ne _ _ _ (show b + 2 ≠ b + 1 by omega), xu_ne _ _ _ (show b + 2 ≠ b + 3 by omega)]
  · rw [xu_row, xu_ne _ _ _ (show b + 2 ≠ b + 1 by omega), xu_ne _ _ _ (show b + 2 ≠ b + 3 by omega)]
theorem bLearn_3 (V : xV) (b n j : Nat) : bLearn V b n (b + 3) j = if j = n then 1 else V (b + 3) j := by
  unfold bLearn bPut
  split
  · rw [xu_ne _ _ _ (show b + 3 ≠ b by omega), xu_ne _ _ _ (show b + 3 ≠ b + 2 by omega), xu_ne _ _ _ (show b + 3 ≠ b + 1 by omega), xu_row]
  · rw [xu_ne _ _ _ (show b + 3 ≠ b + 2 by omega), xu_ne _ _ _ (show b + 3 ≠ b + 1 by omega), xu_row]
theorem bLearn_7 (V : xV) (b n : Nat) : bLearn V b n b 7 = if V b 7 = nI n then -1 else V b 7 := by
  unfold bLearn bPut
  split
  · rw [xu_row, if_pos rfl]
  · rw [xu_ne _ _ _ (show b ≠ b + 2 by omega), xu_ne _ _ _ (show b ≠ b + 1 by omega), xu_ne _ _ _ (show b ≠ b + 3 by omega)]
theorem mLearn_3 (V : xV) (n k j : Nat) : mLearn V n k 3 j = if j = k ∧ V 3 k = nI n then -1 else V 3 j := by
  unfold mLearn
  split
  · rename_i h
    rw [xu_row]
    by_cases e : j = k
    · rw [if_pos e, if_pos ⟨e, h⟩]
    · rw [if_neg e, if_neg (fun z => e z.1), xu_ne _ _ _ (by decide), xu_ne _ _ _ (by decide)]
  · rename_i h
    rw [if_neg (fun z => h z.2), xu_ne _ _ _ (by decide), xu_ne _ _ _ (by decide)]
theorem mLearn_6 (V : xV) (n k j : Nat) : mLearn V n k 6 j = if j = 40 * n + k then 0 else V 6 j := by
  unfold mLearn
  split
  · rw [xu_ne _ _ _ (by decide), xu_row, xu_ne _ _ _ (by decide)]
  · rw [xu_row, xu_ne _ _ _ (by decide)]
theorem mLearn_8 (V : xV) (n k j : Nat) : mLearn V n k 8 j = if j = 40 * n + k then 1 else V 8 j := by
  unfold mLearn
  split
  · rw [xu_ne _ _ _ (by decide), xu_ne _ _ _ (by decide), xu_row]
  · rw [xu_ne _ _ _ (by decide), xu_row]
/-- the general form: rows of bundles and the counts of drops and refusals alone have changed -/
theorem Rel.bun {nb nc t : Nat} {od : Nat → Nat} {V Vm V' Vm' : xV} (h : Rel nb nc t od V Vm)
    (ho : ∀ i, i < 13 → i ≠ 2 → i ≠ 3 → V' i = V i) (hm : ∀ i, i = 0 ∨ i = 1 ∨ i = 2 ∨ i = 9 ∨ i = 12 ∨ i = 17 → Vm' i = Vm i)
    (hf : ∀ k i, i < 4 → V' (20 + 4 * k) i = V (20 + 4 * k) i) (hd : ∀ n, n < 8 → Vm' 10 n = V' 2 n ∧ Vm' 11 n = V' 3 n)
    (hk : ∀ k, k < nb → Vm' 3 k = V' (20 + 4 * k) 7 ∧ Vm' 4 k = V' (20 + 4 * k) 8 ∧ Vm' 5 k = V' (20 + 4 * k) 9 ∧ (V' (20 + 4 * k) 8 = -1 ∨ 0 ≤ V' (20 + 4 * k) 8))
    (hn : ∀ n, n < 8 → ∀ k, k < nb → RelN V' Vm' n k) (hF : RelF nb Vm') : Rel nb nc t od V' Vm' := by
  obtain ⟨h1, h2, h3, h4, h5, h6, ⟨T, h7, h8, h9⟩, h10, h11, h12, h13, h14, h15, h16⟩ := h
  refine ⟨h1, by rw [ho 4 (by omega) (by omega) (by omega)]; exact h2, by rw [ho 5 (by omega) (by omega) (by omega)]; exact h3, by rw [hm 17 (by omega)]; exact h4, by rw [ho 6 (by omega) (by omega) (by omega)]; exact h5, by rw [hm 17 (by omega)]; exact h6, ⟨T, h7, by rw [ho 0 (by omega) (by omega) (by omega)]; exact h8, by rw [hm 17 (by omega)]; exact h9⟩, fun n hn8 => ?_, fun k hk' => ?_, hn, fun j hj => ?_, fun i j hi hj => ?_, h15, hF⟩
  · rw [hm 9 (by omega), ho 1 (by omega) (by omega) (by omega)]
    exact ⟨(h10 n hn8).1, hd n hn8⟩
  · obtain ⟨k1, k2, k3, k4, -⟩ := h11 k hk'
    obtain ⟨z1, z2, z3, z4⟩ := hk k hk'
    refine ⟨by rw [hf k 0 (by omega)]; exact k1, ?_, by rw [hm 1 (by omega), hf k 2 (by omega)]; exact k3, by rw [hm 2 (by omega), hf k 3 (by omega)]; exact k4, z1, z2, z3, z4⟩
    rw [hm 0 (by omega), hf k 1 (by omega)]
    exact k2
  · have z := h13 j hj
    unfold RelP at z ⊢
    rw [ho 9 (by omega) (by omega) (by omega), ho 10 (by omega) (by omega) (by omega), ho 11 (by omega) (by omega) (by omega), ho 12 (by omega) (by omega) (by omega), hm 12 (by omega)]; exact z
  · have z := h14 i j hi hj
    unfold bBef at z ⊢
    rw [hf _ 0 (by omega), hf _ 0 (by omega), hf _ 2 (by omega), hf _ 2 (by omega), hf _ 3 (by omega), hf _ 3 (by omega)]; exact z
/-- one bundle alone has changed -/
theorem Rel.one {nb nc t : Nat} {od : Nat → Nat} {V Vm V' Vm' : xV} (h : Rel nb nc t od V Vm) (hb : nb ≤ 40) (k0 : Nat) (hk0 : k0 < nb)
    (ho : ∀ i, i < 13 → V' i = V i) (hb4 : ∀ k, k ≠ k0 → ∀ j, j < 4 → V' (20 + 4 * k + j) = V (20 + 4 * k + j)) (hf : ∀ i, i < 4 → V' (20 + 4 * k0) i = V (20 + 4 * k0) i)
    (hm : ∀ i, i < 13 → i ≠ 3 → i ≠ 4 → i ≠ 5 → i ≠ 6 → i ≠ 7 → i ≠ 8 → Vm' i = Vm i) (hm17 : Vm' 17 = Vm 17)
    (hm3 : ∀ k, k ≠ k0 → Vm' 3 k = Vm 3 k ∧ Vm' 4 k = Vm 4 k ∧ Vm' 5 k = Vm 5 k) (hm6 : ∀ n k, n < 8 → k < 40 → k ≠ k0 → Vm' 6 (40 * n + k) = Vm 6 (40 * n + k) ∧ Vm' 7 (40 * n + k) = Vm 7 (40 * n + k) ∧ Vm' 8 (40 * n + k) = Vm 8 (40 * n + k))
    (hk : Vm' 3 k0 = V' (20 + 4 * k0) 7 ∧ Vm' 4 k0 = V' (20 + 4 * k0) 8 ∧ Vm' 5 k0 = V' (20 + 4 * k0) 9 ∧ (V' (20 + 4 * k0) 8 = -1 ∨ 0 ≤ V' (20 + 4 * k0) 8))
    (hn : ∀ n, n < 8 → RelN V' Vm' n k0) : Rel nb nc t od V' Vm' := by
  have h' := id h
  obtain ⟨h1, h2, h3, h4, h5, h6, ⟨T, h7, h8, h9⟩, h10, h11, h12, h13, h14, h15, h16⟩ := h'
  refine h.bun (fun i hi _ _ => ho i hi) (fun i hi => ?_) (fun k i hi => ?_) (fun n hn8 => ?_) (fun k hk' => ?_) (fun n hn8 k hk' => ?_) (fun k hk1 hk2 => ?_)
  · rcases hi with rfl | rfl | rfl | rfl | rfl | rfl
    · exact hm 0 (by omega) (by omega) (by omega) (by omega) (by omega) (by omega) (by omega)
    · exact hm 1 (by omega) (by omega) (by omega) (by omega) (by omega) (by omega) (by omega)
    · exact hm 2 (by omega) (by omega) (by omega) (by omega) (by omega) (by omega) (by omega)
    · exact hm 9 (by omega) (by omega) (by omega) (by omega) (by omega) (by omega) (by omega)
    · exact hm 12 (by omega) (by omega) (by omega) (by omega) (by omega) (by omega) (by omega)
    · exact hm17
  · by_cases e : k = k0
    · subst e; exact hf i hi
    · rw [show 20 + 4 * k = 20 + 4 * k + 0 from rfl, hb4 k e 0 (by omega)]
  · rw [hm 10 (by omega) (by omega) (by omega) (by omega) (by omega) (by omega) (by omega), hm 11 (by omega) (by omega) (by omega) (by omega) (by omega) (by omega) (by omega), ho 2 (by omega), ho 3 (by omega)]
    exact (h10 n hn8).2
  · by_cases e : k = k0
    · subst e; exact hk
    · obtain ⟨q1, q2, q3⟩ := hm3 k e
      rw [q1, q2, q3, show 20 + 4 * k = 20 + 4 * k + 0 from rfl, hb4 k e 0 (by omega)]
      obtain ⟨-, -, -, -, k5, k6, k7, k8⟩ := h11 k hk'
      exact ⟨k5, k6, k7, k8⟩
  · by_cases e : k = k0
    · subst e; exact hn n hn8
    · obtain ⟨q1, q2, q3⟩ := hm6 n k hn8 (by omega) e
      have z := h12 n hn8 k hk'
      unfold RelN at z ⊢
      rw [q1, q2, q3, hb4 k e 1 (by omega), hb4 k e 2 (by omega), hb4 k e 3 (by omega), show V' (20 + 4 * k) = V (20 + 4 * k) from hb4 k e 0 (by omega)]
      exact z
  · obtain ⟨f1, f2⟩ := h16 k hk1 hk2
    have e : k ≠ k0 := by omega
    refine ⟨by rw [(hm3 k e).2.2]; exact f1, fun n hn8 => ?_⟩
    obtain ⟨q1, q2, q3⟩ := hm6 n k hn8 hk2 e
    rw [q1, q2, q3]
    exact f2 n hn8
theorem Rel.learn {nb nc t : Nat} {od : Nat → Nat} {V Vm : xV} (h : Rel nb nc t od V Vm) (hb : nb ≤ 40) {n k : Nat} (hn : n < 8) (hk : k < nb) : Rel nb nc t od (bLearn V (20 + 4 * k) n) (mLearn Vm n k) := by
  have h' := id h
  obtain ⟨h1, h2, h3, h4, h5, h6, ⟨T, h7, h8, h9⟩, h10, h11, h12, h13, h14, h15, h16⟩ := h'
  obtain ⟨k1, k2, k3, k4, k5, k6, k7, k8⟩ := h11 k hk
  refine h.one hb k hk (fun i hi => bLearn_o _ _ _ (by omega) (by omega) (by omega) (by omega)) (fun k' e j hj => bLearn_o _ _ _ (by omega) (by omega) (by omega) (by omega)) (fun i hi => bLearn_f _ _ _ (by omega)) (fun i _ a1 _ _ a2 _ a3 => mLearn_o _ _ _ a1 a2 a3) (mLearn_o _ _ _ (by decide) (by decide) (by decide)) (fun k' e => ?_) (fun m k' hm hk' e => ?_) ?_ (fun m hm => ?_)
  · rw [mLearn_3, if_neg (fun z => e z.1), mLearn_o _ _ _ (by decide) (by decide) (by decide), mLearn_o _ _ _ (by decide) (by decide) (by decide)]
    exact ⟨rfl, rfl, rfl⟩
  · rw [mLearn_6, if_neg (by omega), mLearn_8, if_neg (by omega), mLearn_o _ _ _ (by decide) (by decide) (by decide)]
    exact ⟨rfl, rfl, rfl⟩
  · rw [mLearn_3, mLearn_o _ _ _ (by decide) (by decide) (by decide), mLearn_o _ _ _ (by decide) (by decide) (by decide), bLearn_7, bLearn_f _ _ _ (by decide), bLearn_f _ _ _ (by decide), k5]
    refine ⟨?_, k6, k7, k8⟩
    by_cases e : V (20 + 4 * k) 7 = nI n
    · rw [if_pos ⟨rfl, e⟩, if_pos e]
    · rw [if_neg (fun z => e z.2), if_neg e]
  · obtain ⟨r1, r2, r3, r4, r5, r6⟩ := h12 m hm k hk
    unfold RelN
    rw [mLearn_6, mLearn_8, mLearn_o _ _ _ (by decide) (by decide) (by decide), bLearn_1, bLearn_2, bLearn_3, bLearn_7]
    have m1 : (-1 : Int32) ≠ nI m := nI_m1 (by omega)
    by_cases e : m = n
    · subst e
      simp only [if_pos]
      refine ⟨trivial, ⟨0, by omega, rfl⟩, trivial, Or.inr trivial, fun z => absurd z (by decide), fun _ => ⟨trivial, ?_⟩⟩
      split
      · exact m1
      · assumption
    · rw [if_neg (show ¬ 40 * m + k = 40 * n + k by omega), if_neg (show ¬ 40 * m + k = 40 * n + k by omega), if_neg e, if_neg e, if_neg e]
      refine ⟨r1, r2, r3, r4, r5, fun z => ⟨(r6 z).1, ?_⟩⟩
      split
      · exact m1
      · exact (r6 z).2
/-- to learn what is known changes nothing that is told -/
theorem Rel.learn2 {nb nc t : Nat} {od : Nat → Nat} {V Vm : xV} (h : Rel nb nc t od V Vm) (hb : nb ≤ 40) {n k : Nat} (hn : n < 8) (hk : k < nb) (hv : V (20 + 4 * k + 3) n = 1) : Rel nb nc t od (bLearn V (20 + 4 * k) n) Vm := by
  have h' := id h
  obtain ⟨h1, h2, h3, h4, h5, h6, ⟨T, h7, h8, h9⟩, h10, h11, h12, h13, h14, h15, h16⟩ := h'
  obtain ⟨k1, k2, k3, k4, k5, k6, k7, k8⟩ := h11 k hk
  have s6 := (h12 n hn k hk).2.2.2.2.2 hv
  refine h.one hb k hk (fun i hi => bLearn_o _ _ _ (by omega) (by omega) (by omega) (by omega)) (fun k' e j hj => bLearn_o _ _ _ (by omega) (by omega) (by omega) (by omega)) (fun i hi => bLearn_f _ _ _ (by omega)) (fun i _ a1 _ _ a2 _ a3 => rfl) rfl (fun k' e => ⟨rfl, rfl, rfl⟩) (fun m k' hm hk' e => ⟨rfl, rfl, rfl⟩) ?_ (fun m hm => ?_)
  · rw [bLearn_7, bLearn_f _ _ _ (by decide), bLearn_f _ _ _ (by decide), if_neg s6.2]
    exact ⟨k5, k6, k7, k8⟩
  · have r := h12 m hm k hk
    unfold RelN at r ⊢
    rw [bLearn_1, bLearn_2, bLearn_3, bLearn_7, if_neg s6.2]
    by_cases e : m = n
    · subst e
      simp only [if_pos]
      rw [hv, s6.1] at r
      exact ⟨r.1, ⟨0, by omega, rfl⟩, r.2.2.1, Or.inr trivial, fun z => absurd z (by decide), fun _ => ⟨trivial, s6.2⟩⟩
    · rw [if_neg e, if_neg e, if_neg e]
      exact r
