/-! THE PURE PART: the order of bundles, places in it -/
theorem cntP_list (P : Nat → Bool) (n : Nat) : cntP P n = (List.range n).countP P := by
  induction n with
  | zero => rfl
  | succ n ih =>
    rw [List.range_succ, List.countP_append, ← ih]
    show cntP P n + _ = _
    congr 1
    simp only [List.countP_cons, List.countP_nil, Nat.zero_add]
theorem cntP_hit {P : Nat → Bool} {n m : Nat} (h : m < cntP P n) : ∃ i, i < n ∧ P i = true ∧ cntP P i = m := by
  induction n with
  | zero => exact absurd h (Nat.not_lt_zero m)
  | succ n ih =>
    by_cases c : m < cntP P n
    · obtain ⟨i, h1, h2, h3⟩ := ih c
      exact ⟨i, by omega, h2, h3⟩
    · by_cases q : P n = true
      · rw [cntP_t q] at h
        exact ⟨n, by omega, q, by omega⟩
      · rw [cntP_f q] at h
        exact absurd h c
theorem cntP_lt {P : Nat → Bool} {i n : Nat} (h : i < n) (hP : P i = true) : cntP P i < cntP P n := by
  have z := cntP_mono P (show i + 1 ≤ n from h)
  rw [cntP_t hP] at z
  omega
theorem cntP_inj {P : Nat → Bool} {i j : Nat} (hi : P i = true) (hj : P j = true) (h : cntP P i = cntP P j) : i = j := by
  rcases Nat.lt_trichotomy i j with c | c | c
  · have := cntP_lt c hi; omega
  · exact c
  · have := cntP_lt c hj; omega
theorem cntP_cut {P : Nat → Bool} {i n : Nat} (h : i ≤ n) : cntP (fun x => P x && decide (x < i)) n = cntP P i := by
  have e : ∀ n, i ≤ n → cntP (fun x => P x && decide (x < i)) n = cntP (fun x => P x && decide (x < i)) i := by
    intro n h
    induction n with
    | zero => rw [show i = 0 by omega]
    | succ n ih =>
      by_cases c : i ≤ n
      · rw [cntP_f (by simp; omega), ih c]
      · rw [show i = n + 1 by omega]
  rw [e n h]
  exact cntP_congr (fun x hx => by simp [hx])
theorem bBef_iff (V : xV) (b c : Nat) : bBef V b c = true ↔ (V c 2).toInt < (V b 2).toInt ∨ ((V b 2).toInt = (V c 2).toInt ∧ ((V b 3).toInt < (V c 3).toInt ∨ ((V b 3).toInt = (V c 3).toInt ∧ (V b 0).toInt < (V c 0).toInt))) := by
  unfold bBef
  simp only [i_eq (V b 2), i_eq (V b 3), i_le]
  split
  · split
    · rw [decide_eq_true_eq]; omega
    · rw [decide_eq_true_eq]; omega
  · rw [decide_eq_true_eq]; omega
theorem bBef_trans {V : xV} {b c d : Nat} (h1 : bBef V b c = true) (h2 : bBef V c d = true) : bBef V b d = true := by
  rw [bBef_iff] at *
  omega
theorem bBef_irr (V : xV) (b : Nat) : ¬ bBef V b b = true := by
  rw [bBef_iff]
  omega
theorem bBef_total {V : xV} {b c : Nat} (h : ¬ bBef V b c = true) (hne : V b 0 ≠ V c 0) : bBef V c b = true := by
  have hne : ¬ (V b 0).toInt = (V c 0).toInt := fun z => hne ((i_eq _ _).mpr z)
  rw [bBef_iff] at *
  omega
section RelQ
variable {nb nc t : Nat} {od : Nat → Nat} {V Vm : xV}
theorem Rel.perm (h : Rel nb nc t od V Vm) : ((List.range nb).map od).Perm (List.range nb) := by
  obtain ⟨h1, h2, h3, h4, h5, h6, h7, h10, h11, h12, h13, h14, h15, h16⟩ := h
  exact h15
theorem Rel.ord (h : Rel nb nc t od V Vm) : ∀ i j, i < j → j < nb → bBef V (20 + 4 * od i) (20 + 4 * od j) = true := by
  obtain ⟨h1, h2, h3, h4, h5, h6, h7, h10, h11, h12, h13, h14, h15, h16⟩ := h
  exact h14
theorem Rel.rk (h : Rel nb nc t od V Vm) : ∀ k, k < nb → RelK V Vm k := by
  obtain ⟨h1, h2, h3, h4, h5, h6, h7, h10, h11, h12, h13, h14, h15, h16⟩ := h
  exact h11
theorem Rel.rn (h : Rel nb nc t od V Vm) : ∀ n, n < 8 → ∀ k, k < nb → RelN V Vm n k := by
  obtain ⟨h1, h2, h3, h4, h5, h6, h7, h10, h11, h12, h13, h14, h15, h16⟩ := h
  exact h12
theorem Rel.rp (h : Rel nb nc t od V Vm) : ∀ j, j < nc → RelP V Vm j := by
  obtain ⟨h1, h2, h3, h4, h5, h6, h7, h10, h11, h12, h13, h14, h15, h16⟩ := h
  exact h13
theorem Rel.fr (h : Rel nb nc t od V Vm) : RelF nb Vm := by
  obtain ⟨h1, h2, h3, h4, h5, h6, h7, h10, h11, h12, h13, h14, h15, h16⟩ := h
  exact h16
theorem Rel.rd (h : Rel nb nc t od V Vm) : ∀ n, n < 8 → Vm 9 n = V 1 n ∧ Vm 10 n = V 2 n ∧ Vm 11 n = V 3 n := by
  obtain ⟨h1, h2, h3, h4, h5, h6, h7, h10, h11, h12, h13, h14, h15, h16⟩ := h
  exact h10
theorem Rel.od_lt (h : Rel nb nc t od V Vm) {i : Nat} (hi : i < nb) : od i < nb := by
  have z := h.perm.mem_iff (a := od i)
  rw [List.mem_range] at z
  exact z.mp (List.mem_map.mpr ⟨i, List.mem_range.mpr hi, rfl⟩)
theorem Rel.od_sur (h : Rel nb nc t od V Vm) {k : Nat} (hk : k < nb) : ∃ i, i < nb ∧ od i = k := by
  have z := (h.perm.mem_iff (a := k)).mpr (List.mem_range.mpr hk)
  obtain ⟨i, hi, e⟩ := List.mem_map.mp z
  exact ⟨i, List.mem_range.mp hi, e⟩
theorem Rel.cnt_od (h : Rel nb nc t od V Vm) (P : Nat → Bool) : cntP (fun i => P (od i)) nb = cntP P nb := by
  rw [cntP_list, cntP_list, ← h.perm.countP_eq P, List.countP_map]
  rfl
theorem Rel.pre_bef (h : Rel nb nc t od V Vm) {x y : Nat} (hx : x < nb) (hy : y < nb) (hb : nb ≤ 40) : mPre Vm x y = bBef V (20 + 4 * x) (20 + 4 * y) := by
  obtain ⟨a1, a2, a3, a4, -⟩ := h.rk x hx
  obtain ⟨b1, b2, b3, b4, -⟩ := h.rk y hy
  unfold mPre bBef
  rw [a1, a3, a4, b1, b3, b4]
  split
  · split
    · have e : (x < y) ↔ (¬ nI y ≤ nI x) := by rw [nI_leI (by omega) (by omega)]; omega
      simp only [e]
    · have e : (V (20 + 4 * x) 3 < V (20 + 4 * y) 3) ↔ (¬ V (20 + 4 * y) 3 ≤ V (20 + 4 * x) 3) := i_nle.symm
      simp only [e]
  · have e : (V (20 + 4 * y) 2 < V (20 + 4 * x) 2) ↔ (¬ V (20 + 4 * x) 2 ≤ V (20 + 4 * y) 2) := i_nle.symm
    simp only [e]
theorem Rel.bef (h : Rel nb nc t od V Vm) {i j : Nat} (hi : i < nb) (hj : j < nb) : bBef V (20 + 4 * od i) (20 + 4 * od j) = decide (i < j) := by
  rcases Nat.lt_trichotomy i j with c | c | c
  · rw [h.ord i j c hj, decide_eq_true c]
  · subst c
    rw [decide_eq_false (Nat.lt_irrefl i)]
    exact Bool.eq_false_iff.mpr (bBef_irr V _)
  · rw [decide_eq_false (by omega)]
    exact Bool.eq_false_iff.mpr (fun z => bBef_irr V _ (bBef_trans z (h.ord j i c hi)))
theorem Rel.pre (h : Rel nb nc t od V Vm) (hb : nb ≤ 40) {i j : Nat} (hi : i < nb) (hj : j < nb) : mPre Vm (od i) (od j) = decide (i < j) := by
  rw [h.pre_bef (h.od_lt hi) (h.od_lt hj) hb, h.bef hi hj]
theorem Rel.od_inj (h : Rel nb nc t od V Vm) {i j : Nat} (hi : i < nb) (hj : j < nb) (e : od i = od j) : i = j := by
  have a := h.bef hi hj
  have b := h.bef hj hi
  rw [e] at a b
  rw [Bool.eq_false_iff.mpr (bBef_irr V _)] at a b
  have a := of_decide_eq_false a.symm
  have b := of_decide_eq_false b.symm
  omega
theorem Rel.rank (h : Rel nb nc t od V Vm) (hb : nb ≤ 40) (S : Nat → Bool) {i : Nat} (hi : i < nb) : cntP (fun k => S k && mPre Vm k (od i)) nb = cntP (fun j => S (od j)) i := by
  rw [← h.cnt_od (fun k => S k && mPre Vm k (od i)), ← cntP_cut (P := fun j => S (od j)) (show i ≤ nb by omega)]
  exact cntP_congr (fun j hj => by show (S (od j) && mPre Vm (od j) (od i)) = _; rw [h.pre hb hj hi])
theorem Rel.has (h : Rel nb nc t od V Vm) {n k : Nat} (hn : n < 8) (hk : k < nb) : mHas Vm n k = cHas V n k := by
  unfold mHas cHas
  rw [(h.rn n hn k hk).1]
end RelQ
theorem mFnd_at {V : xV} {n cnt ks : Nat} {x : Int32} (h1 : ¬ V 6 (40 * n + ks) ≤ 0) (h2 : nI (cntP (mAhd V n ks) cnt) = x) (K : Nat) (hK : ks < K) (hu : ∀ k, k < K → ¬ V 6 (40 * n + k) ≤ 0 → nI (cntP (mAhd V n k) cnt) = x → k = ks) : mFnd V n x cnt K = nI ks := by
  induction K with
  | zero => exact absurd hK (Nat.not_lt_zero _)
  | succ K ih =>
    unfold mFnd
    split
    · rename_i c
      have e : ks ≠ K := fun z => h1 (by rw [z]; exact c)
      exact ih (by omega) (fun k hk => hu k (by omega))
    · rename_i c
      split
      · rename_i d
        rw [hu K (by omega) c d]
      · rename_i d
        have e : ks ≠ K := fun z => d (by rw [← z]; exact h2)
        exact ih (by omega) (fun k hk => hu k (by omega))
section Ps9
variable {l : Launch} {D : va_G} {tys : List (ClassId × FieldType)} {cI cZ cO cJ : ClassId} {mi e0 : Nat} {sa : Nat → Nat} {shm : xS} {adm : Nat → Nat}
theorem P_heldAt (hst : l.stackTraces = false) (M : xMm shm adm cI tys) (hT3 : tys[3]? = some (cJ, .long)) : LawP l D tys mi e0 sa shm adm (LI cI cZ cO cJ tys e0) yL_heldAt wsL_heldAt yX3_heldAt wsX3_heldAt 2 2 := by
  intro t sh ad V Vm xs hxs ht ⟨nb, nc, od, DW, h16, R⟩
  obtain ⟨x, y, rfl⟩ := two_arg hxs
  have hb : nb ≤ 40 := DW.dl.2.2.2.2.2.2.2.2
  obtain ⟨r1, r2, r3, r4, -⟩ := id R
  have fin : LI cI cZ cO cJ tys e0 (t + 1) sh ad V (xu Vm 17 20 1) := ⟨nb, nc, od, DW, h16, (R.thr hb 1).mono⟩
  by_cases h : 0 ≤ x ∧ x ≤ 7
  · obtain ⟨n, hn, rfl⟩ := nod_nat h
    have hc : cntP (cHasO V od n) nb = cntP (mHas Vm n) nb := by
      rw [R.cnt hn]
      exact R.cnt_od (cHas V n)
    have hc40 : cntP (mHas Vm n) nb ≤ 40 := Nat.le_trans (cntP_le _ _) hb
    by_cases h2 : 0 ≤ y ∧ y ≤ nI (cntP (mHas Vm n) nb) - 1
    · obtain ⟨m, hm, rfl⟩ := bun_nat hc40 ((bun_iff hc40).mp h2)
      rw [← hc] at hm
      obtain ⟨j, hj, hjP, hjm⟩ := cntP_hit hm
      have hjP' : 0 < V (20 + 4 * od j + 1) n := of_decide_eq_true hjP
      have ho := R.od_lt hj
      have rankOf : ∀ i, i < nb → cntP (mAhd Vm n (od i)) nb = cntP (cHasO V od n) i := by
        intro i hi
        unfold mAhd
        rw [R.rank hb (mHas Vm n) hi]
        exact cntP_congr (fun q hq => R.has hn (R.od_lt (by omega)))
      refine ⟨0, mFnd Vm n (nI m) nb nb, _, (w_heldAt_ok l DW h16 hT3 V r2 r3 n j (nI m) hn hj hjP' (by rw [hjm])).mono ?_, c_X3_heldAt_ok l M Vm n nb (nI m) hn h2 r4 hb, by rw [xu_row, if_pos rfl]⟩
      rintro v sh' ad' V' ⟨rfl, rfl, rfl, rfl⟩
      refine ⟨rfl, ⟨nb, nc, od, DW, h16, ((R.eqC (fun i _ _ h => xu_ne _ _ _ h)).thr hb 0).mono⟩, rfl, rfl, fun _ => ?_⟩
      rw [xu_row, if_pos rfl, (R.rk (od j) ho).1]
      refine (mFnd_at ?_ (by rw [rankOf j hj, hjm]) nb ho ?_).symm
      · rw [(R.rn n hn (od j) ho).1]; exact i_nle.mpr hjP'
      · intro k hk hk1 hk2
        obtain ⟨i, hi, rfl⟩ := R.od_sur hk
        rw [(R.rn n hn (od i) hk).1] at hk1
        rw [rankOf i hi] at hk2
        have e1 : cntP (cHasO V od n) i = m := (nI_eq (Nat.lt_of_le_of_lt (cntP_le _ _) (by omega)) (by have := cntP_le (cHasO V od n) nb; omega)).mp hk2
        rw [cntP_inj (P := cHasO V od n) (i := i) (j := j) (decide_eq_true (i_nle.mp hk1)) hjP (e1.trans hjm.symm)]
    · refine ⟨1, -1, _, (w_heldAt_bad2 l hst DW h16 hT3 V r2 r3 n y hn ?_).mono ?_, c_X3_heldAt_bad2 l M Vm n nb y hn h2 r4 hb, by rw [xu_row, if_pos rfl]⟩
      · intro i hi hi0 e
        apply h2
        rw [bun_iff hc40, ← e]
        have z := cntP_lt (P := cHasO V od n) hi (decide_eq_true hi0)
        rw [hc] at z
        exact ⟨nI_pos' (by omega), (nI_ltI (by omega) (by omega)).mpr z⟩
      · rintro v sh' ad' V' ⟨rfl, rfl, rfl, rfl⟩
        exact ⟨rfl, fin, rfl, rfl, fun z => absurd z (by decide)⟩
  · refine ⟨1, -1, _, (w_heldAt_bad1 l hst DW h16 hT3 V r2 r3 x y h).mono ?_, c_X3_heldAt_bad1 l M Vm x y h, by rw [xu_row, if_pos rfl]⟩
    rintro v sh' ad' V' ⟨rfl, rfl, rfl, rfl⟩
    exact ⟨rfl, fin, rfl, rfl, fun z => absurd z (by decide)⟩
end Ps9
