/-! class-only pure lemmas, as whole has them -/
theorem nat_of {x : Int32} (h : 0 ≤ x) : ∃ k : Nat, k < 2 ^ 31 ∧ x = nI k := by
  have h0 : 0 ≤ x.toInt := by simpa using (i_le 0 x).mp h
  have h1 : x.toInt < 2 ^ 31 := Int32.toInt_lt x
  refine ⟨x.toInt.toNat, by omega, ?_⟩
  rw [i_eq, nI_toInt (by omega)]
  omega
/-! THE PURE PART: what changes one bundle keeps the relation -/
theorem xu_at (V : xV) (i k : Nat) (x : Int32) (j m : Nat) : xu V i k x j m = if j = i ∧ m = k then x else V j m := by
  by_cases h : j = i
  · subst h
    rw [xu_row]
    by_cases e : m = k
    · rw [if_pos e, if_pos ⟨rfl, e⟩]
    · rw [if_neg e, if_neg (fun z => e z.2)]
  · rw [xu_ne _ _ _ h, if_neg (fun z => h z.1)]
theorem nI_m1 {n : Nat} (h : n < 2 ^ 31) : (-1 : Int32) ≠ nI n := by
  intro z
  have q := (i_eq _ _).mp z
  rw [nI_toInt h] at q
  have q1 : (-1 : Int32).toInt = -1 := by decide
  omega
theorem bLearn_1 (V : xV) (b n j : Nat) : bLearn V b n (b + 1) j = if j = n then 0 else V (b + 1) j := by
  unfold bLearn bPut
  split
  · rw [xu_ne _ _ _ (show b + 1 ≠ b by omega), xu_ne _ _ _ (show b + 1 ≠ b + 2 by omega), xu_row, xu_ne _ _ _ (show b + 1 ≠ b + 3 by omega)]
  · rw [xu_ne _ _ _ (show b + 1 ≠ b + 2 by omega), xu_row, xu_ne _ _ _ (show b + 1 ≠ b + 3 by omega)]
theorem bLearn_2 (V : xV) (b n j : Nat) : bLearn V b n (b + 2) j = if j = n then 0 else V (b + 2) j := by
  unfold bLearn bPut
  split
  · rw [xu_ne _ _ _ (show b + 2 ≠ b by omega), xu_row, xu_ne _ _ _ (show b + 2 ≠ b + 1 by omega), xu_ne _ _ _ (show b + 2 ≠ b + 3 by omega)]
  · rw [xu_row, xu_ne _ _ _ (show b + 2 ≠ b + 1 by omega), xu_ne _ _ _ (show b + 2 ≠ b + 3 by omega)]
theorem bLearn_3 (V : xV) (b n j : Nat) : bLearn V b n (b + 3) j = if j = n then 1 else V (b + 3) j := by
  unfold bLearn bPut
  split
  · rw [xu_ne _ _ _ (show b + 3 ≠ b by omega), xu_ne _ _ _ (show b + 3 ≠ b + 2 by omega), xu_ne _ _ _ (show b + 3 ≠ b + 1 by omega), xu_row]
  · rw [xu_ne _ _ _ (show b + 3 ≠ b + 2 by omega), xu_ne _ _ _ (show b + 3 ≠ b + 1 by omega), xu_row]
theorem bLearn_7 (V : xV) (b n : Nat) : bLearn V b n b 7 = if V b 7 = nI n then -1 else V b 7 := by
  unfold bLearn bPut
  split
  · rw [xu_row, if_pos rfl]
  · rw [xu_ne _ _ _ (show b ≠ b + 2 by omega), xu_ne _ _ _ (show b ≠ b + 1 by omega), xu_ne _ _ _ (show b ≠ b + 3 by omega)]
/-! THE PURE PART: the order of bundles, places in it -/
theorem cntP_list (P : Nat → Bool) (n : Nat) : cntP P n = (List.range n).countP P := by
  induction n with
  | zero => rfl
  | succ n ih =>
    rw [List.range_succ, List.countP_append, ← ih]
    show cntP P n + _ = _
    congr 1
    simp only [List.countP_cons, List.countP_nil, Nat.zero_add]
theorem cntP_hit {P : Nat → Bool} {n m : Nat} (h : m < cntP P n) : ∃ i, i < n ∧ P i = true ∧ cntP P i = m := by
  induction n with
  | zero => exact absurd h (Nat.not_lt_zero m)
  | succ n ih =>
    by_cases c : m < cntP P n
    · obtain ⟨i, h1, h2, h3⟩ := ih c
      exact ⟨i, by omega, h2, h3⟩
    · by_cases q : P n = true
      · rw [cntP_t q] at h
        exact ⟨n, by omega, q, by omega⟩
      · rw [cntP_f q] at h
        exact absurd h c
theorem cntP_lt {P : Nat → Bool} {i n : Nat} (h : i < n) (hP : P i = true) : cntP P i < cntP P n := by
  have z := cntP_mono P (show i + 1 ≤ n from h)
  rw [cntP_t hP] at z
  omega
theorem cntP_inj {P : Nat → Bool} {i j : Nat} (hi : P i = true) (hj : P j = true) (h : cntP P i = cntP P j) : i = j := by
  rcases Nat.lt_trichotomy i j with c | c | c
  · have := cntP_lt c hi; omega
  · exact c
  · have := cntP_lt c hj; omega
/-! THE PURE PART: holders, pass -/
def bOr (p : Nat → Bool) : Nat → Int32
  | 0 => 0
  | n + 1 => bOr p n ||| (if p n = true then 1 <<< (nI n &&& 31) else 0)
theorem bOr_c (V : xV) (b n : Nat) : cBits V b n = bOr (fun i => decide (0 < V (b + 1) i)) n := by
  induction n with
  | zero => rfl
  | succ n ih =>
    unfold cBits bOr
    rw [ih]
    by_cases h : 0 < V (b + 1) n
    · rw [if_pos h, if_pos (decide_eq_true h)]
    · rw [if_neg h, if_neg (by rw [decide_eq_true_eq]; exact h), Int32.or_zero]
theorem bOr_congr {p q : Nat → Bool} (n : Nat) (h : ∀ i, i < n → p i = q i) : bOr p n = bOr q n := by
  induction n with
  | zero => rfl
  | succ n ih =>
    unfold bOr
    rw [ih (fun i hi => h i (by omega)), h n (by omega)]
def bLst (l : List Bool) : Nat → Bool := fun i => l.getD i false
theorem bLst_at (p : Nat → Bool) : ∀ i, i < 8 → p i = bLst [p 0, p 1, p 2, p 3, p 4, p 5, p 6, p 7] i := by
  intro i hi
  match i, hi with
  | 0, _ => rfl
  | 1, _ => rfl
  | 2, _ => rfl
  | 3, _ => rfl
  | 4, _ => rfl
  | 5, _ => rfl
  | 6, _ => rfl
  | 7, _ => rfl
/-- a bundle that is over -/
theorem bGoneN_1 (V : xV) (b n j : Nat) : bGoneN V b n (b + 1) j = if j < n then 0 else V (b + 1) j := by
  induction n with
  | zero => rw [if_neg (Nat.not_lt_zero j)]; rfl
  | succ n ih =>
    unfold bGoneN bPut
    rw [xu_ne _ _ _ (show b + 1 ≠ b + 2 by omega), xu_row, ih]
    by_cases e : j = n
    · rw [if_pos e, if_pos (by omega)]
    · rw [if_neg e]
      by_cases c : j < n
      · rw [if_pos c, if_pos (by omega)]
      · rw [if_neg c, if_neg (by omega)]
theorem bGoneN_3 (V : xV) (b n : Nat) : bGoneN V b n (b + 3) = V (b + 3) := bGoneN_o _ _ _ (by omega) (by omega)
/-! THE PURE PART: room at a node -/
theorem cLast_spec (V : xV) (od : Nat → Nat) (n k : Nat) : (cLast V od n k = 0 → ∀ j, j < k → ¬ (0 < V (20 + 4 * od j + 1) n ∧ ¬ V (20 + 4 * od j) 7 = nI n)) ∧ (∀ m, cLast V od n k = m + 1 → m < k ∧ (0 < V (20 + 4 * od m + 1) n ∧ ¬ V (20 + 4 * od m) 7 = nI n) ∧ ∀ j, m < j → j < k → ¬ (0 < V (20 + 4 * od j + 1) n ∧ ¬ V (20 + 4 * od j) 7 = nI n)) := by
  induction k with
  | zero => exact ⟨fun _ j hj => absurd hj (Nat.not_lt_zero j), fun m hm => absurd hm (by show ¬ (0 = m + 1); omega)⟩
  | succ k ih =>
    by_cases c : 0 < V (20 + 4 * od k + 1) n ∧ ¬ V (20 + 4 * od k) 7 = nI n
    · rw [cLast_t c.1 c.2]
      refine ⟨fun z => absurd z (by omega), fun m hm => ?_⟩
      have e : m = k := by omega
      subst e
      exact ⟨by omega, c, fun j h1 h2 => absurd h2 (by omega)⟩
    · rw [cLast_f c]
      refine ⟨fun z j hj => ?_, fun m hm => ?_⟩
      · by_cases e : j = k
        · subst e; exact c
        · exact ih.1 z j (by omega)
      · obtain ⟨a1, a2, a3⟩ := ih.2 m hm
        refine ⟨by omega, a2, fun j h1 h2 => ?_⟩
        by_cases e : j = k
        · subst e; exact c
        · exact a3 j h1 (by omega)
/-! THE PURE PART: send -/
theorem insOd_perm {od : Nat → Nat} {P nb : Nat} (hP : P ≤ nb) (h : ((List.range nb).map od).Perm (List.range nb)) : ((List.range (nb + 1)).map (insOd od P nb)).Perm (List.range (nb + 1)) := by
  obtain ⟨r, rfl⟩ := Nat.exists_eq_add_of_le hP
  have e1 : (List.range (P + r + 1)).map (insOd od P (P + r)) = (List.range P).map od ++ (P + r) :: (List.range r).map (fun q => od (P + q)) := by
    rw [show P + r + 1 = P + (r + 1) by omega, List.range_add, List.map_append, List.range_succ_eq_map, List.map_map]
    congr 1
    · refine List.map_congr_left (fun q hq => ?_)
      unfold insOd
      rw [if_pos (List.mem_range.mp hq)]
    · rw [List.map_cons, List.map_map]
      congr 1
      · show insOd od P (P + r) (P + 0) = P + r
        unfold insOd
        rw [if_neg (by omega), if_pos (by omega)]
      · refine List.map_congr_left (fun q hq => ?_)
        show insOd od P (P + r) (P + (q + 1)) = od (P + q)
        unfold insOd
        rw [if_neg (by omega), if_neg (by omega)]
        congr 1
  have e2 : (List.range (P + r)).map od = (List.range P).map od ++ (List.range r).map (fun q => od (P + q)) := by
    rw [List.range_add, List.map_append, List.map_map]
    rfl
  rw [e1]
  refine List.perm_middle.trans ?_
  rw [← e2]
  refine (h.cons (P + r)).trans ?_
  rw [List.range_succ]
  exact (List.perm_append_singleton _ _).symm
theorem cop_nat {x : Int32} (h : 1 ≤ x ∧ x ≤ 64) : ∃ c, c ≤ 64 ∧ x = nI c := by
  have q1 : (1 : Int32).toInt = 1 := by decide
  have q0 : (0 : Int32).toInt = 0 := by decide
  have z := h.1
  rw [i_le] at z
  obtain ⟨k, hk, rfl⟩ := nat_of (x := x) (by rw [i_le]; omega)
  exact ⟨k, (nI_leI (a := k) (b := 64) hk (by omega)).mp h.2, rfl⟩
theorem NEV_int : NEV.toInt = 2147483647 := by decide
theorem le_NEV (x : Int32) : x ≤ NEV := by
  rw [i_le, NEV_int]
  have := Int32.toInt_lt x
  omega
theorem pSec_ge (V : xV) (k u : Nat) : V 13 u ≤ pSec V k u := by
  unfold pSec
  split
  · rename_i h
    rw [i_lt] at h
    rw [i_le]; omega
  · exact (i_le _ _).mpr (Int.le_refl _)
theorem pCar_cases (V : xV) (k u v : Nat) : pCarV V k u v = V ∨ (pCarV V k u v = xu V 13 v (pSec V k u) ∧ pSec V k u < V 13 v) := by
  unfold pCarV
  split
  · rename_i h
    unfold pCarB at h
    rw [Bool.and_eq_true] at h
    exact Or.inr ⟨rfl, of_decide_eq_true h.2⟩
  · exact Or.inl rfl
theorem pCar_le (V : xV) (k u v y : Nat) : pCarV V k u v 13 y ≤ V 13 y := by
  rcases pCar_cases V k u v with e | ⟨e, h⟩
  · rw [e]; exact (i_le _ _).mpr (Int.le_refl _)
  · rw [e, xu_row]
    split
    · rename_i c
      rw [c]
      rw [i_lt] at h
      rw [i_le]; omega
    · exact (i_le _ _).mpr (Int.le_refl _)
theorem ne_NEV {x y : Int32} (h : x ≤ y) (hy : y ≠ NEV) : x ≠ NEV := by
  intro z
  apply hy
  have q := le_NEV y
  rw [z] at h
  rw [i_le] at h q
  rw [i_eq]; omega
theorem pEa_le {V : xV} (k y : Nat) (hy : y < k) (h : V 14 y = 0) : pEa V k ≤ V 13 y := by
  induction k with
  | zero => exact absurd hy (Nat.not_lt_zero y)
  | succ k ih =>
    by_cases c : V 14 k = 0 ∧ ¬ pEa V k ≤ V 13 k
    · rw [pEa_t c.1 c.2]
      by_cases e : y = k
      · rw [e]; exact (i_le _ _).mpr (Int.le_refl _)
      · have z := ih (by omega)
        have q := c.2
        rw [i_le] at z q ⊢
        omega
    · rw [pEa_f c]
      by_cases e : y = k
      · subst e
        exact Decidable.byContradiction (fun z => c ⟨h, z⟩)
      · exact ih (by omega)
/-- the nearest: found, and no later than any that is not settled -/
theorem pNr_spec {V : xV} (h : pNr V 8 ≠ 0) : pNr V 8 - 1 < 8 ∧ (∀ y, y < 8 → V 14 y = 0 → V 13 (pNr V 8 - 1) ≤ V 13 y) := by
  have l := pNr_le V 8
  refine ⟨by omega, fun y hy z => ?_⟩
  have q := pEa_le 8 y hy z
  unfold pEa at q
  rw [if_neg h] at q
  exact q
/-- what is not later than the node that spreads keeps its second -/
theorem pSp_keep {V : xV} (a k : Nat) : ∀ y, (pSp V a k 13 y = V 13 y ∨ V 13 a ≤ pSp V a k 13 y) ∧ pSp V a k 13 y ≤ V 13 y := by
  induction k with
  | zero => exact fun y => ⟨Or.inl rfl, (i_le _ _).mpr (Int.le_refl _)⟩
  | succ k ih =>
    have ea : pSp V a k 13 a = V 13 a := by
      obtain ⟨q1 | q1, q2⟩ := ih a
      · exact q1
      · rw [i_le] at q1 q2
        rw [i_eq]; omega
    have go : ∀ v, ∀ y, (pCarV (pSp V a k) k a v 13 y = V 13 y ∨ V 13 a ≤ pCarV (pSp V a k) k a v 13 y) ∧ pCarV (pSp V a k) k a v 13 y ≤ V 13 y := by
      intro v y
      refine ⟨?_, ?_⟩
      · rcases pCar_cases (pSp V a k) k a v with e | ⟨e, h⟩
        · rw [e]; exact (ih y).1
        · rw [e, xu_row]
          split
          · right
            have z := pSec_ge (pSp V a k) k a
            rw [ea] at z
            exact z
          · exact (ih y).1
      · have z := pCar_le (pSp V a k) k a v y
        have z2 := (ih y).2
        rw [i_le] at z z2 ⊢
        omega
    unfold pSp
    split
    · exact go _
    · split
      · exact go _
      · exact ih
theorem run_stay {nc d : Nat} (f : Nat) {V : xV} (h : ∀ y, y < 8 → V 14 y = 0 → V 13 d ≤ V 13 y) : pRun nc 8 f V 13 d = V 13 d := by
  induction f generalizing V with
  | zero => rfl
  | succ f ih =>
    unfold pRun
    by_cases c : pNr V 8 = 0
    · rw [if_pos c]
    · obtain ⟨s1, s2⟩ := pNr_spec c
      rw [if_neg c, if_neg (by omega)]
      have un : V 14 (pNr V 8 - 1) = 0 := by
        have z : ∀ k, pNr V k ≠ 0 → V 14 (pNr V k - 1) = 0 := by
          intro k
          induction k with
          | zero => exact fun q => absurd rfl q
          | succ k ih2 =>
            intro q
            by_cases w : V 14 k = 0 ∧ ¬ pEa V k ≤ V 13 k
            · rw [pNr_t w.1 w.2]; exact w.1
            · rw [pNr_f w] at q ⊢; exact ih2 q
        exact z 8 c
      generalize pNr V 8 - 1 = a at *
      have hda := h a s1 un
      have k := pSp_keep (V := xu V 14 a 1) a nc
      rw [xu_ne V (i := 14) (j := 13) a 1 (by decide)] at k
      have kd : pSp (xu V 14 a 1) a nc 13 d = V 13 d := by
        obtain ⟨q1 | q1, q2⟩ := k d
        · exact q1
        · rw [i_le] at q1 q2 hda
          rw [i_eq]; omega
      rw [ih, kd]
      intro y hy hy0
      rw [kd]
      rw [pSp_o _ _ _ (by decide), xu_row] at hy0
      have hy1 : V 14 y = 0 := by
        by_cases e : y = a
        · rw [if_pos e] at hy0; exact absurd hy0 (by decide)
        · rw [if_neg e] at hy0; exact hy0
      obtain ⟨q1 | q1, q2⟩ := k y
      · rw [q1]; exact h y hy hy1
      · rw [i_le] at q1 hda ⊢; omega
theorem run_stop {nc d : Nat} (hd : d < 8) (f : Nat) (V : xV) : pRun nc d f V 13 d = pRun nc 8 f V 13 d := by
  induction f generalizing V with
  | zero => rfl
  | succ f ih =>
    by_cases c : pNr V 8 = 0
    · unfold pRun
      rw [if_pos c, if_pos c]
    · obtain ⟨s1, s2⟩ := pNr_spec c
      by_cases e : pNr V 8 - 1 = d
      · rw [run_stay (d := d) (f + 1) (V := V) (by rw [← e]; exact s2)]
        unfold pRun
        rw [if_neg c, if_pos e]
      · unfold pRun
        rw [if_neg c, if_neg e, if_neg c, if_neg (by omega)]
        exact ih _
theorem pRow_un (V : xV) (k : Nat) (h : ¬ (pRow V k).2 = true) : (pRow V k).1 = V := by
  induction k with
  | zero => rfl
  | succ k ih =>
    by_cases c : pCarB (pRow V k).1 k (pOne V k) (pTwo V k) = true
    · rw [pRow_1 c] at h
      exact absurd rfl h
    · by_cases d : pCarB (pCarV (pRow V k).1 k (pOne V k) (pTwo V k)) k (pTwo V k) (pOne V k) = true
      · rw [pRow_2 c d] at h
        exact absurd rfl h
      · rw [pRow_3 c d] at h ⊢
        have e1 : pCarV (pRow V k).1 k (pOne V k) (pTwo V k) = (pRow V k).1 := if_neg c
        rw [e1] at d
        show pCarV (pCarV (pRow V k).1 k (pOne V k) (pTwo V k)) k (pTwo V k) (pOne V k) = V
        rw [e1, show pCarV (pRow V k).1 k (pTwo V k) (pOne V k) = (pRow V k).1 from if_neg d]
        exact ih h
theorem pRow_both (V : xV) (k : Nat) : (pRow V (k + 1)).1 = pCarV (pCarV (pRow V k).1 k (pOne V k) (pTwo V k)) k (pTwo V k) (pOne V k) := by
  by_cases c : pCarB (pRow V k).1 k (pOne V k) (pTwo V k) = true
  · rw [pRow_1 c]
    have e : pCarV (pRow V k).1 k (pOne V k) (pTwo V k) = xu (pRow V k).1 13 (pTwo V k) (pSec (pRow V k).1 k (pOne V k)) := if_pos c
    have f : ¬ pCarB (pCarV (pRow V k).1 k (pOne V k) (pTwo V k)) k (pTwo V k) (pOne V k) = true := by
      refine pCar_f2 (i_nlt.mpr ?_)
      have z1 := pSec_ge (pCarV (pRow V k).1 k (pOne V k) (pTwo V k)) k (pTwo V k)
      have z2 := pCar_le (pRow V k).1 k (pOne V k) (pTwo V k) (pOne V k)
      have z3 := pSec_ge (pRow V k).1 k (pOne V k)
      have z4 : pCarV (pRow V k).1 k (pOne V k) (pTwo V k) 13 (pTwo V k) = pSec (pRow V k).1 k (pOne V k) := by rw [e, xu_row, if_pos rfl]
      rw [z4] at z1
      rw [i_le] at *
      omega
    exact (show pCarV (pCarV (pRow V k).1 k (pOne V k) (pTwo V k)) k (pTwo V k) (pOne V k) = pCarV (pRow V k).1 k (pOne V k) (pTwo V k) from if_neg f).symm
  · by_cases d : pCarB (pCarV (pRow V k).1 k (pOne V k) (pTwo V k)) k (pTwo V k) (pOne V k) = true
    · rw [pRow_2 c d]
    · rw [pRow_3 c d]
theorem bLearn_z (V : xV) (k n : Nat) {i : Nat} (h : ∀ j, j < 4 → i ≠ 20 + 4 * k + j) : bLearn V (20 + 4 * k) n i = V i :=
  bLearn_o _ _ _ (h 0 (by omega)) (h 1 (by omega)) (h 2 (by omega)) (h 3 (by omega))
theorem bDeliver_z (V : xV) (k n d : Nat) (t : Int32) {i : Nat} (h : ∀ j, j < 4 → i ≠ 20 + 4 * k + j) : bDeliver V (20 + 4 * k) n d t i = V i := by
  unfold bDeliver
  rw [bLearn_z _ _ _ h, bLearn_z _ _ _ h, xu_ne _ _ _ (show i ≠ 20 + 4 * k from h 0 (by omega)), xu_ne _ _ _ (show i ≠ 20 + 4 * k from h 0 (by omega))]
theorem bDeliver_3 (V : xV) (k n d : Nat) (t : Int32) : bDeliver V (20 + 4 * k) n d t (20 + 4 * k + 3) n = 1 ∧ bDeliver V (20 + 4 * k) n d t (20 + 4 * k + 3) d = 1 := by
  unfold bDeliver
  rw [bLearn_3, bLearn_3, bLearn_3, bLearn_3, if_pos rfl, if_pos rfl]
  refine ⟨?_, rfl⟩
  split
  · rfl
  · rfl
theorem half64 : ∀ c : Fin 65, nI c.val / 2 = nI (c.val / 2) := by decide +kernel
theorem cRoomV_g (V : xV) (od : Nat → Nat) (n : Nat) (p : Int32) (nb k g : Nat) (hne : g ≠ n) : cRoomV V od n p nb (20 + 4 * k + 1) g = V (20 + 4 * k + 1) g := by
  unfold cRoomV
  split
  · split
    · rfl
    · split
      · unfold bPut
        rw [xu_ne _ _ _ (by omega), xu_ne _ _ _ (by omega), xu_at, if_neg (fun z => hne z.2)]
      · rfl
  · rfl
theorem cRoomV_3 (V : xV) (od : Nat → Nat) (n : Nat) (p : Int32) (nb k : Nat) : cRoomV V od n p nb (20 + 4 * k + 3) = V (20 + 4 * k + 3) := by
  unfold cRoomV
  split
  · split
    · rfl
    · split
      · rw [xu_ne _ _ _ (by omega), bPut_o _ _ _ _ _ (by omega) (by omega)]
      · rfl
  · rfl
theorem cSpV_3 (V : xV) (od : Nat → Nat) (k g d nb j : Nat) : cSpV V od (20 + 4 * k) g d nb (20 + 4 * j + 3) = V (20 + 4 * j + 3) := by
  unfold cSpV
  split
  · split
    · rw [bHalve_o _ _ _ _ (by omega) (by omega), cRoomV_3]
    · rw [xu_ne _ _ _ (by omega), cRoomV_3]
  · rfl
theorem nI_ab {a b : Nat} (ha : a < 8) (hb : b < 8) (h : a ≠ b) : nI a ≠ nI b := fun z => h ((nI_eq (by omega) (by omega)).mp z)
theorem cDl_10 (od : Nat → Nat) (a b nb : Nat) (most : Int32) (f i : Nat) (made : Int32) (W : xV) (k : Nat) : (cDl od a b nb most f i made W).2 (20 + 4 * k) 10 = W (20 + 4 * k) 10 := by
  have e : ∀ (W : xV) (q n d : Nat) (t : Int32), bDeliver W (20 + 4 * q) n d t (20 + 4 * k) 10 = W (20 + 4 * k) 10 := fun W q n d t => by
    unfold bDeliver
    rw [bLearn_g _ _ _ _ (by omega), bLearn_g _ _ _ _ (by omega), xu_g _ _ _ _ _ _ (by omega), xu_g _ _ _ _ _ _ (by omega)]
  induction f generalizing i made W with
  | zero => rfl
  | succ f ih =>
    unfold cDl
    split
    · rfl
    · split
      · rfl
      · split
        · rw [ih, e]
        · split
          · rw [ih, e]
          · rw [ih]
theorem cSl_none (od : Nat → Nat) (a b nb f : Nat) (most : Int32) (W : xV) (h : most ≤ 0) : cSl od a b nb most f 0 0 W = (0, W) := by
  cases f with
  | zero => rfl
  | succ f =>
    unfold cSl
    split
    · rfl
    · rfl
theorem mo_nat {x : Int32} (h : 0 ≤ x ∧ x ≤ 20) : ∃ n, n ≤ 20 ∧ x = nI n := by
  obtain ⟨k, hk, rfl⟩ := nat_of h.1
  exact ⟨k, (nI_leI (a := k) (b := 20) hk (by omega)).mp h.2, rfl⟩
