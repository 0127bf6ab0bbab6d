/-! NODES: what they hold, and all bundles together -/
theorem cnt_le {P Q : Nat → Bool} (n : Nat) (h : ∀ y, y < n → Q y = true → P y = true) : cntP Q n ≤ cntP P n := by
  induction n with
  | zero => exact Nat.le_refl _
  | succ m ih =>
    have z := ih (fun y hy => h y (by omega))
    by_cases q : Q m = true
    · rw [cntP_t q, cntP_t (h m (by omega) q)]; omega
    · rw [cntP_f q]
      exact Nat.le_trans z (cntP_mono P (Nat.le_succ m))
theorem cnt_up {P Q : Nat → Bool} (a n : Nat) (h : ∀ y, y < n → y ≠ a → Q y = true → P y = true) : cntP Q n ≤ cntP P n + if a < n then 1 else 0 := by
  induction n with
  | zero => exact Nat.zero_le _
  | succ m ih =>
    have z := ih (fun y hy => h y (by omega))
    have mo := cntP_mono P (show m ≤ m + 1 by omega)
    by_cases e : m = a
    · subst e
      rw [if_neg (Nat.lt_irrefl _)] at z
      rw [if_pos (Nat.lt_succ_self _)]
      by_cases q : Q m = true
      · rw [cntP_t q]; omega
      · rw [cntP_f q]; omega
    · have c : (if a < m + 1 then 1 else 0) = (if a < m then 1 else 0) := by
        by_cases q : a < m
        · rw [if_pos q, if_pos (by omega)]
        · rw [if_neg q, if_neg (by omega)]
      rw [c]
      by_cases q : Q m = true
      · rw [cntP_t q, cntP_t (h m (by omega) e q)]; omega
      · rw [cntP_f q]; omega
def NB (nb : Nat) (V : xV) (n : Nat) : Prop := ∃ p, 1 ≤ p ∧ p ≤ 8 ∧ V 1 n = nI p ∧ cntP (cHas V n) nb ≤ p
def INB (M E T nb : Nat) (S : Nat → Nat) (V : xV) : Prop := (∀ k, k < nb → BK M E T (S k) V k) ∧ ∀ n, n < 8 → NB nb V n
theorem cHas_iff (V : xV) (n k : Nat) : cHas V n k = true ↔ 0 < V (20 + 4 * k + 1) n := by unfold cHas; rw [decide_eq_true_eq]
section NBs
variable {M E T nb : Nat} {S : Nat → Nat} {V W : xV}
theorem INB.mono {M' E' : Nat} (h : INB M E T nb S V) (hM : M ≤ M') (hE : E ≤ E') : INB M' E' T nb S V := ⟨fun k hk => (h.1 k hk).mono hM hE, h.2⟩
theorem INB.eq (h : INB M E T nb S V) (e0 : ∀ k, k < nb → ∀ i, i ≠ 10 → W (20 + 4 * k) i = V (20 + 4 * k) i) (ej : ∀ k, k < nb → ∀ j, 1 ≤ j → j < 4 → W (20 + 4 * k + j) = V (20 + 4 * k + j)) (e1 : W 1 = V 1) : INB M E T nb S W := by
  refine ⟨fun k hk => (h.1 k hk).eq (e0 k hk) (ej k hk 1 (by omega) (by omega)) (ej k hk 2 (by omega) (by omega)) (ej k hk 3 (by omega) (by omega)), fun n hn => ?_⟩
  obtain ⟨p, p1, p2, p3, p4⟩ := h.2 n hn
  refine ⟨p, p1, p2, by rw [e1]; exact p3, Nat.le_trans (cnt_le nb fun y hy q => ?_) p4⟩
  rw [cHas_iff] at *
  rw [ej y hy 1 (by omega) (by omega)] at q
  exact q
/-- one bundle alone has changed, and no node has it that had it not -/
theorem INB.one (h : INB M E T nb S V) {k0 : Nat} (ho : ∀ i, (∀ j, j < 4 → i ≠ 20 + 4 * k0 + j) → W i = V i) (hk : BK M E T (S k0) W k0) (hn : ∀ n, n < 8 → 0 < W (20 + 4 * k0 + 1) n → 0 < V (20 + 4 * k0 + 1) n) : INB M E T nb S W := by
  have oth : ∀ k, k ≠ k0 → ∀ j, j < 4 → W (20 + 4 * k + j) = V (20 + 4 * k + j) := fun k e j hj => ho _ (fun j' hj' => by omega)
  refine ⟨fun k hk' => ?_, fun n hn8 => ?_⟩
  · by_cases e : k = k0
    · subst e; exact hk
    · exact (h.1 k hk').eq (fun i _ => congrFun (oth k e 0 (by omega)) i) (oth k e 1 (by omega)) (oth k e 2 (by omega)) (oth k e 3 (by omega))
  · obtain ⟨p, p1, p2, p3, p4⟩ := h.2 n hn8
    refine ⟨p, p1, p2, by rw [ho 1 (fun j hj => by omega)]; exact p3, Nat.le_trans (cnt_le nb fun y hy q => ?_) p4⟩
    rw [cHas_iff] at *
    by_cases e : y = k0
    · subst e; exact hn n hn8 q
    · rw [oth y e 1 (by omega)] at q
      exact q
theorem INB.learn (h : INB M E T nb S V) {k n : Nat} (hk : k < nb) (hn : n < 8) (hd : V (20 + 4 * k) 8 ≠ -1) : INB M E T nb S (bLearn V (20 + 4 * k) n) := by
  refine h.one (k0 := k) (fun i hi => bLearn_z V k n hi) ((h.1 k hk).learn hn hd) (fun m hm q => ?_)
  rw [bLearn_1] at q
  by_cases e : m = n
  · rw [if_pos e] at q; exact absurd q (by decide)
  · rw [if_neg e] at q; exact q
theorem bDeliver_1 (V : xV) (k n d : Nat) (t : Int32) (j : Nat) : bDeliver V (20 + 4 * k) n d t (20 + 4 * k + 1) j = if j = d then 0 else if j = n then 0 else V (20 + 4 * k + 1) j := by
  unfold bDeliver
  rw [bLearn_1, bLearn_1, xu_ne _ _ _ (by omega), xu_ne _ _ _ (by omega)]
theorem INB.deliver (h : INB M E T nb S V) {k n d : Nat} (hT : T < 2 ^ 31) (hk : k < nb) (hn : n < 8) (hd : d < 8) (hp : 0 < V (20 + 4 * k + 1) n) : INB M E T nb S (bDeliver V (20 + 4 * k) n d (nI T)) := by
  refine h.one (k0 := k) (fun i hi => bDeliver_z V k n d _ hi) ((h.1 k hk).deliver hT hn hd hp) (fun m hm q => ?_)
  rw [bDeliver_1] at q
  by_cases e : m = d
  · rw [if_pos e] at q; exact absurd q (by decide)
  · rw [if_neg e] at q
    by_cases e2 : m = n
    · rw [if_pos e2] at q; exact absurd q (by decide)
    · rw [if_neg e2] at q; exact q
theorem bPut_z (V : xV) (k n : Nat) (c h : Int32) {i : Nat} (hi : ∀ j, j < 4 → i ≠ 20 + 4 * k + j) : bPut V (20 + 4 * k) n c h i = V i := bPut_o _ _ _ _ _ (hi 1 (by omega)) (hi 2 (by omega))
theorem INB.drop (h : INB M E T nb S V) {k n : Nat} (hk : k < nb) (hne : V (20 + 4 * k) 7 ≠ nI n) : INB M E T nb S (bPut V (20 + 4 * k) n 0 0) := by
  refine h.one (k0 := k) (fun i hi => bPut_z V k n 0 0 hi) ((h.1 k hk).drop hne) (fun m hm q => ?_)
  rw [bPut_1] at q
  by_cases e : m = n
  · rw [if_pos e] at q; exact absurd q (by decide)
  · rw [if_neg e] at q; exact q
theorem INB.keep (h : INB M E T nb S V) {k r : Nat} (hk : k < nb) (hr : r < 8) (hp : 0 < V (20 + 4 * k + 1) r) : INB M E T nb S (xu V (20 + 4 * k) 7 (nI r)) := by
  refine h.one (k0 := k) (fun i hi => xu_ne _ _ _ (hi 0 (by omega))) ((h.1 k hk).keep hr hp) (fun m hm q => ?_)
  rw [xu_ne _ _ _ (by omega)] at q
  exact q
/-- copies have not come, and what bundles are has stayed (fields ahead of 7, and the giver) -/
def CD (V W : xV) : Prop := (∀ k n, 0 < W (20 + 4 * k + 1) n → 0 < V (20 + 4 * k + 1) n) ∧ ∀ k i, i < 7 → W (20 + 4 * k) i = V (20 + 4 * k) i
theorem CD.refl (V : xV) : CD V V := ⟨fun _ _ h => h, fun _ _ _ => rfl⟩
theorem CD.trans {V W U : xV} (h : CD V W) (g : CD W U) : CD V U := ⟨fun k n q => h.1 k n (g.1 k n q), fun k i hi => (g.2 k i hi).trans (h.2 k i hi)⟩
theorem CD.learn (V : xV) (k n : Nat) : CD V (bLearn V (20 + 4 * k) n) := by
  refine ⟨fun j m q => ?_, fun j i hi => bLearn_g _ _ _ _ (by omega)⟩
  by_cases e : j = k
  · subst e
    rw [bLearn_1] at q
    by_cases c : m = n
    · rw [if_pos c] at q; exact absurd q (by decide)
    · rw [if_neg c] at q; exact q
  · rw [bLearn_z V k n (fun j' hj' => by omega)] at q; exact q
theorem CD.deliver (V : xV) (k n d : Nat) (t : Int32) : CD V (bDeliver V (20 + 4 * k) n d t) := by
  refine ⟨fun j m q => ?_, fun j i hi => bDeliver_g _ _ _ _ _ _ hi⟩
  by_cases e : j = k
  · subst e
    rw [bDeliver_1] at q
    by_cases c : m = d
    · rw [if_pos c] at q; exact absurd q (by decide)
    · rw [if_neg c] at q
      by_cases c2 : m = n
      · rw [if_pos c2] at q; exact absurd q (by decide)
      · rw [if_neg c2] at q; exact q
  · rw [bDeliver_z V k n d t (fun j' hj' => by omega)] at q; exact q
/-- room made at a node -/
theorem room_cases (V : xV) (od : Nat → Nat) (n : Nat) (prio : Int32) (nb : Nat) : (cRoomV V od n prio nb = V ∧ (cRoomB V od n prio nb = true → ¬ V 1 n ≤ nI (cntP (cHas V n) nb))) ∨ ∃ j, j < nb ∧ 0 < V (20 + 4 * od j + 1) n ∧ V (20 + 4 * od j) 7 ≠ nI n ∧ cRoomV V od n prio nb = xu (bPut V (20 + 4 * od j) n 0 0) 2 n (V 2 n + 1) := by
  unfold cRoomV cRoomB
  by_cases c : V 1 n ≤ nI (cntP (cHas V n) nb)
  · rw [if_pos c, if_pos c]
    by_cases d : cLast V od n nb = 0
    · rw [if_pos d, if_pos d]
      exact Or.inl ⟨rfl, fun z => absurd z (by decide)⟩
    · rw [if_neg d, if_neg d]
      by_cases e : V (20 + 4 * od (cLast V od n nb - 1)) 2 < prio
      · rw [if_pos e]
        obtain ⟨q1, q2, -⟩ := (cLast_spec V od n nb).2 (cLast V od n nb - 1) (by omega)
        exact Or.inr ⟨_, q1, q2.1, q2.2, rfl⟩
      · rw [if_neg e]
        exact Or.inl ⟨rfl, fun z => absurd (of_decide_eq_true z) e⟩
  · rw [if_neg c, if_neg c]
    exact Or.inl ⟨rfl, fun _ => c⟩
theorem INB.row2 (h : INB M E T nb S V) {i : Nat} (hi : i = 2 ∨ i = 3) (n : Nat) (x : Int32) : INB M E T nb S (xu V i n x) :=
  h.eq (fun k _ j _ => congrFun (xu_ne _ _ _ (by omega)) j) (fun k _ j _ _ => xu_ne _ _ _ (by omega)) (xu_ne _ _ _ (by omega))
theorem CD.row2 (V : xV) {i : Nat} (hi : i = 2 ∨ i = 3) (n : Nat) (x : Int32) : CD V (xu V i n x) :=
  ⟨fun k m q => by rw [xu_ne _ _ _ (by omega)] at q; exact q, fun k j _ => by rw [xu_ne _ _ _ (by omega)]⟩
theorem CD.drop (V : xV) (k n : Nat) : CD V (bPut V (20 + 4 * k) n 0 0) := by
  refine ⟨fun j m q => ?_, fun j i hi => bPut_g _ _ _ _ _ _ _⟩
  by_cases e : j = k
  · subst e
    rw [bPut_1] at q
    by_cases c : m = n
    · rw [if_pos c] at q; exact absurd q (by decide)
    · rw [if_neg c] at q; exact q
  · rw [bPut_z V k n 0 0 (fun j' hj' => by omega)] at q; exact q
theorem INB.room (h : INB M E T nb S V) {od : Nat → Nat} (hod : ∀ j, j < nb → od j < nb) (hb : nb ≤ 40) {n : Nat} (hn : n < 8) (prio : Int32) : INB M E T nb S (cRoomV V od n prio nb) ∧ CD V (cRoomV V od n prio nb) ∧ (cRoomB V od n prio nb = true → ∃ p, p ≤ 8 ∧ cRoomV V od n prio nb 1 n = nI p ∧ cntP (cHas (cRoomV V od n prio nb) n) nb < p) := by
  obtain ⟨p, p1, p2, p3, p4⟩ := h.2 n hn
  have cl := cntP_le (cHas V n) nb
  rcases room_cases V od n prio nb with ⟨e, hB⟩ | ⟨j, j1, j2, j3, e⟩
  · rw [e]
    refine ⟨h, CD.refl V, fun z => ⟨p, p2, p3, ?_⟩⟩
    have q := hB z
    rw [p3, nI_leI (by omega) (by omega)] at q
    omega
  · rw [e]
    refine ⟨(h.drop (hod j j1) j3).row2 (Or.inl rfl) _ _, (CD.drop V _ _).trans (CD.row2 _ (Or.inl rfl) _ _), fun _ => ⟨p, p2, ?_, ?_⟩⟩
    · rw [xu_ne _ _ _ (by decide), bPut_z V _ n 0 0 (fun j hj => by omega)]; exact p3
    · refine Nat.lt_of_lt_of_le (cnt_drop (P := cHas V n) (a := od j) nb (fun y hy q => ?_) (hod j j1) ((cHas_iff _ _ _).mpr j2) (fun q => ?_)) p4
      · rw [cHas_iff] at *
        rw [xu_ne _ _ _ (by omega)] at q
        exact (CD.drop V (od j) n).1 y n q
      · rw [cHas_iff, xu_ne _ _ _ (by omega), bPut_1, if_pos rfl] at q
        exact absurd q (by decide)
/-- a bundle halved: one node more has it, which has room -/
theorem INB.halve (h : INB M E T nb S V) {k g d p : Nat} (hk : k < nb) (hg : g < 8) (hd : d < 8) (hne : g ≠ d) (hp : 0 < V (20 + 4 * k + 1) g) (hz : ¬ 0 < V (20 + 4 * k + 1) d) (hkn : V (20 + 4 * k + 3) d = V (20 + 4 * k + 3) g) (hp8 : p ≤ 8) (hpd : V 1 d = nI p) (hroom : cntP (cHas V d) nb < p) : INB (M + 1) E T nb S (bHalve V (20 + 4 * k) g d) := by
  have ho : ∀ i, (∀ j, j < 4 → i ≠ 20 + 4 * k + j) → bHalve V (20 + 4 * k) g d i = V i := fun i hi => bHalve_o _ _ _ _ (hi 1 (by omega)) (hi 2 (by omega))
  have oth : ∀ k', k' ≠ k → ∀ j, j < 4 → bHalve V (20 + 4 * k) g d (20 + 4 * k' + j) = V (20 + 4 * k' + j) := fun k' e j hj => ho _ (fun j' hj' => by omega)
  have r1 : ∀ n, n ≠ d → 0 < bHalve V (20 + 4 * k) g d (20 + 4 * k + 1) n → 0 < V (20 + 4 * k + 1) n := by
    intro n e q
    unfold bHalve at q
    rw [bPut_1, if_neg e, xu_row] at q
    by_cases c : n = g
    · rw [c]; exact hp
    · rw [if_neg c] at q; exact q
  refine ⟨fun k' hk' => ?_, fun n hn8 => ?_⟩
  · by_cases e : k' = k
    · subst e; exact (h.1 k' hk).halve hg hd hne hp hz hkn
    · exact ((h.1 k' hk').eq (fun i _ => congrFun (oth k' e 0 (by omega)) i) (oth k' e 1 (by omega)) (oth k' e 2 (by omega)) (oth k' e 3 (by omega))).mono (Nat.le_succ M) (Nat.le_refl E)
  · obtain ⟨p', p1, p2, p3, p4⟩ := h.2 n hn8
    refine ⟨p', p1, p2, by rw [ho 1 (fun j hj => by omega)]; exact p3, ?_⟩
    by_cases e : n = d
    · subst e
      have pe : p = p' := (nI_eq (by omega) (by omega)).mp (hpd.symm.trans p3)
      have z := cnt_up (P := cHas V n) (Q := cHas (bHalve V (20 + 4 * k) g n) n) k nb (fun y hy ey q => by
        rw [cHas_iff] at *
        rw [oth y ey 1 (by omega)] at q
        exact q)
      rw [if_pos hk] at z
      omega
    · refine Nat.le_trans (cnt_le nb fun y hy q => ?_) p4
      rw [cHas_iff] at *
      by_cases ey : y = k
      · subst ey; exact r1 n e q
      · rw [oth y ey 1 (by omega)] at q
        exact q
theorem BK.kn {s : Nat} {k n : Nat} (h : BK M E T s V k) (hT : T < 2 ^ 31) (hn : n < 8) (hw : V (20 + 4 * k + 3) n ≠ 0) : V (20 + 4 * k) 8 ≠ -1 := by
  obtain ⟨g, e, c, hh, w, -, -, -, -, hw', -, hD, -⟩ := h
  rcases hD with ⟨-, -, z⟩ | ⟨d, q, z1, z2, -⟩
  · rw [(hw' n hn).1, z n hn, b2i_false] at hw
    exact absurd rfl hw
  · rw [z1]
    exact (nI_m1 (by omega)).symm
end NBs
