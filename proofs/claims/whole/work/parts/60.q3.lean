/-! THE PURE PART: holders, pass -/
def bOr (p : Nat → Bool) : Nat → Int32
  | 0 => 0
  | n + 1 => bOr p n ||| (if p n = true then 1 <<< (nI n &&& 31) else 0)
def bDb (p : Nat → Bool) : Nat → Int32
  | 0 => 0
  | d + 1 => 2 * bDb p d + (if p (7 - d) = true then 1 else 0)
theorem bOr_c (V : xV) (b n : Nat) : cBits V b n = bOr (fun i => decide (0 < V (b + 1) i)) n := by
  induction n with
  | zero => rfl
  | succ n ih =>
    unfold cBits bOr
    rw [ih]
    by_cases h : 0 < V (b + 1) n
    · rw [if_pos h, if_pos (decide_eq_true h)]
    · rw [if_neg h, if_neg (by rw [decide_eq_true_eq]; exact h), Int32.or_zero]
theorem bDb_c (V : xV) (k d : Nat) : mSet V k d = bDb (fun i => decide (0 < V 6 (40 * i + k))) d := by
  induction d with
  | zero => rfl
  | succ d ih =>
    unfold mSet bDb
    rw [ih]
    congr 1
    by_cases h : 0 < V 6 (40 * (7 - d) + k)
    · rw [b2i_t h, if_pos (decide_eq_true h)]
    · rw [b2i_f h, if_neg (by rw [decide_eq_true_eq]; exact h)]
theorem bOr_congr {p q : Nat → Bool} (n : Nat) (h : ∀ i, i < n → p i = q i) : bOr p n = bOr q n := by
  induction n with
  | zero => rfl
  | succ n ih =>
    unfold bOr
    rw [ih (fun i hi => h i (by omega)), h n (by omega)]
theorem bDb_congr {p q : Nat → Bool} (d : Nat) (h : ∀ i, i < 8 → p i = q i) : bDb p d = bDb q d := by
  induction d with
  | zero => rfl
  | succ d ih =>
    unfold bDb
    rw [ih, h (7 - d) (by omega)]
def bLst (l : List Bool) : Nat → Bool := fun i => l.getD i false
set_option maxRecDepth 100000 in
theorem bits8 : ∀ a0 a1 a2 a3 a4 a5 a6 a7 : Bool, bOr (bLst [a0, a1, a2, a3, a4, a5, a6, a7]) 8 = bDb (bLst [a0, a1, a2, a3, a4, a5, a6, a7]) 8 := by decide +kernel
theorem bLst_at (p : Nat → Bool) : ∀ i, i < 8 → p i = bLst [p 0, p 1, p 2, p 3, p 4, p 5, p 6, p 7] i := by
  intro i hi
  match i, hi with
  | 0, _ => rfl
  | 1, _ => rfl
  | 2, _ => rfl
  | 3, _ => rfl
  | 4, _ => rfl
  | 5, _ => rfl
  | 6, _ => rfl
  | 7, _ => rfl
theorem bits_eq (p : Nat → Bool) : bOr p 8 = bDb p 8 := by
  rw [bOr_congr 8 (bLst_at p), bDb_congr 8 (bLst_at p)]
  exact bits8 _ _ _ _ _ _ _ _
theorem Rel.bits {nb nc t : Nat} {od : Nat → Nat} {V Vm : xV} (h : Rel nb nc t od V Vm) {k : Nat} (hk : k < nb) : cBits V (20 + 4 * k) 8 = mSet Vm k 8 := by
  rw [bOr_c, bDb_c, bits_eq]
  refine bDb_congr 8 (fun i hi => ?_)
  rw [(h.rn i hi k hk).1]
/-- a bundle that is over -/
theorem bGoneN_1 (V : xV) (b n j : Nat) : bGoneN V b n (b + 1) j = if j < n then 0 else V (b + 1) j := by
  induction n with
  | zero => rw [if_neg (Nat.not_lt_zero j)]; rfl
  | succ n ih =>
    unfold bGoneN bPut
    rw [xu_ne _ _ _ (show b + 1 ≠ b + 2 by omega), xu_row, ih]
    by_cases e : j = n
    · rw [if_pos e, if_pos (by omega)]
    · rw [if_neg e]
      by_cases c : j < n
      · rw [if_pos c, if_pos (by omega)]
      · rw [if_neg c, if_neg (by omega)]
theorem bGoneN_3 (V : xV) (b n : Nat) : bGoneN V b n (b + 3) = V (b + 3) := bGoneN_o _ _ _ (by omega) (by omega)
theorem mWipe_k (V : xV) (k n m : Nat) (hm : m < n) : mWipe V k n 6 (40 * m + k) = 0 := by
  induction n with
  | zero => exact absurd hm (Nat.not_lt_zero m)
  | succ n ih =>
    unfold mWipe
    rw [xu_row]
    by_cases e : 40 * m + k = 40 * n + k
    · rw [if_pos e]
    · rw [if_neg e, ih (by omega)]
theorem mWipe_n (V : xV) (k n j : Nat) (h : ∀ m, j ≠ 40 * m + k) : mWipe V k n 6 j = V 6 j := by
  induction n with
  | zero => rfl
  | succ n ih =>
    unfold mWipe
    rw [xu_row, if_neg (h n), ih]
theorem Rel.gone {nb nc t : Nat} {od : Nat → Nat} {V Vm : xV} (h : Rel nb nc t od V Vm) (hb : nb ≤ 40) {k : Nat} (hk : k < nb) : Rel nb nc t od (bGone V (20 + 4 * k)) (mWipe (xu Vm 3 k (-1)) k 8) := by
  obtain ⟨k1, k2, k3, k4, k5, k6, k7, k8⟩ := h.rk k hk
  have g1 : ∀ m, m < 8 → bGone V (20 + 4 * k) (20 + 4 * k + 1) m = 0 := fun m hm => by
    unfold bGone
    rw [xu_ne _ _ _ (by omega), bGoneN_1, if_pos hm]
  have g3 : bGone V (20 + 4 * k) (20 + 4 * k + 3) = V (20 + 4 * k + 3) := by
    unfold bGone
    rw [xu_ne _ _ _ (by omega), bGoneN_3]
  have g7 : bGone V (20 + 4 * k) (20 + 4 * k) 7 = -1 := by unfold bGone; rw [xu_row, if_pos rfl]
  refine h.one hb k hk (fun i hi => bGone_o _ _ (by omega) (by omega) (by omega)) (fun k' e j hj => bGone_o _ _ (by omega) (by omega) (by omega)) (fun i hi => bGone_f _ _ (by omega)) (fun i _ a1 _ _ a2 _ a3 => by rw [mWipe_o _ _ _ a2, xu_ne _ _ _ a1]) (by rw [mWipe_o _ _ _ (by decide), xu_ne _ _ _ (by decide)]) (fun k' e => ?_) (fun m k' hm hk' e => ?_) ?_ (fun m hm => ?_)
  · rw [mWipe_o _ _ _ (by decide), xu_row, if_neg e, mWipe_o _ _ _ (by decide), xu_ne _ _ _ (by decide), mWipe_o _ _ _ (by decide), xu_ne _ _ _ (by decide)]
    exact ⟨rfl, rfl, rfl⟩
  · rw [mWipe_n _ _ _ _ (fun m' => by omega), xu_ne _ _ _ (by decide), mWipe_o _ _ _ (by decide), xu_ne _ _ _ (by decide), mWipe_o _ _ _ (by decide), xu_ne _ _ _ (by decide)]
    exact ⟨rfl, rfl, rfl⟩
  · rw [mWipe_o _ _ _ (by decide), xu_row, if_pos rfl, g7, mWipe_o _ _ _ (by decide), xu_ne _ _ _ (by decide), mWipe_o _ _ _ (by decide), xu_ne _ _ _ (by decide), bGone_f _ _ (by decide), bGone_f _ _ (by decide)]
    exact ⟨rfl, k6, k7, k8⟩
  · obtain ⟨n1, n2, n3, n4, n5, n6⟩ := h.rn m hm k hk
    unfold RelN
    rw [mWipe_k _ _ _ _ hm, g1 m hm, g3, g7, mWipe_o _ _ _ (by decide), xu_ne _ _ _ (by decide), mWipe_o _ _ _ (by decide), xu_ne _ _ _ (by decide)]
    exact ⟨rfl, ⟨0, by omega, rfl⟩, n3, n4, fun z => absurd z (by decide), fun _ => ⟨rfl, nI_m1 (by omega)⟩⟩
theorem Rel.over {nb nc t : Nat} {od : Nat → Nat} {V Vm : xV} (h : Rel nb nc t od V Vm) {k : Nat} (hk : k < nb) (t0 t1 : Int32) : mOver Vm t0 t1 k = cOver V t0 t1 k := by
  obtain ⟨k1, k2, k3, k4, -⟩ := h.rk k hk
  unfold mOver cOver
  rw [k4]
theorem Rel.gn {nb nc t : Nat} {od : Nat → Nat} {V Vm : xV} (h : Rel nb nc t od V Vm) {k : Nat} (hk : k < nb) (t0 t1 : Int32) : mGone Vm t0 t1 k = cGone V t0 t1 k := by
  obtain ⟨k1, k2, k3, k4, k5, k6, k7, k8⟩ := h.rk k hk
  unfold mGone cGone
  rw [h.over hk, k6]
  congr 1
  rcases k8 with e | e
  · rw [e]; decide
  · have q : ¬ V (20 + 4 * k) 8 = -1 := fun z => by rw [z] at e; exact absurd e (by decide)
    rw [decide_eq_false (by simpa using e), decide_eq_false q]
theorem Rel.passed {nb nc t : Nat} {od : Nat → Nat} {V Vm : xV} (h : Rel nb nc t od V Vm) (hb : nb ≤ 40) (t0 t1 : Int32) (k : Nat) (hk : k ≤ nb) : Rel nb nc t od (cPass V t0 t1 k) (mPass Vm t0 t1 k) := by
  induction k with
  | zero => exact h
  | succ k ih =>
    have z := ih (by omega)
    unfold cPass mPass
    rw [h.over (show k < nb from hk)]
    split
    · exact z.gone hb hk
    · exact z
theorem Rel.tick {nb nc t : Nat} {od : Nat → Nat} {V Vm : xV} (h : Rel nb nc t od V Vm) {x : Int32} (hx : 1 ≤ x ∧ x ≤ 10000) : Rel nb nc (t + 1) od (xu V 0 0 (V 0 0 + x)) (xu Vm 17 19 (Vm 17 19 + x)) := by
  obtain ⟨h1, h2, h3, h4, h5, h6, ⟨T, h7, h8, h9⟩, h10, h11, h12, h13, h14, h15, h16⟩ := h
  have ho : ∀ i, i ≠ 0 → xu V 0 0 (V 0 0 + x) i = V i := fun i h => xu_ne _ _ _ h
  have hm : ∀ i, i ≠ 17 → xu Vm 17 19 (Vm 17 19 + x) i = Vm i := fun i h => xu_ne _ _ _ h
  have m17 : ∀ k, k ≠ 19 → xu Vm 17 19 (Vm 17 19 + x) 17 k = Vm 17 k := fun k h => by rw [xu_row, if_neg h]
  obtain ⟨d, hd, rfl⟩ := nat_of (x := x) (by have := hx.1; rw [i_le] at *; have q : (1 : Int32).toInt = 1 := by decide
                                             have q0 : (0 : Int32).toInt = 0 := by decide
                                             omega)
  have hd2 : d ≤ 10000 := (nI_leI (a := d) (b := 10000) hd (by omega)).mp hx.2
  refine ⟨h1, by rw [ho 4 (by omega)]; exact h2, by rw [ho 5 (by omega)]; exact h3, by rw [m17 17 (by omega)]; exact h4, by rw [ho 6 (by omega)]; exact h5, by rw [m17 18 (by omega)]; exact h6, ⟨T + d, by omega, by rw [xu_row, if_pos rfl, h8, nI_add], by rw [xu_row, if_pos rfl, h9, nI_add]⟩, fun m hm8 => ?_, fun k hk => ?_, fun m hm8 k hk => ?_, fun j hj => ?_, fun i j hi hj => ?_, h15, fun k hk hk4 => ?_⟩
  · rw [hm 9 (by omega), hm 10 (by omega), hm 11 (by omega), ho 1 (by omega), ho 2 (by omega), ho 3 (by omega)]
    exact h10 m hm8
  · have z := h11 k hk
    unfold RelK at z ⊢
    rw [ho (20 + 4 * k) (by omega), hm 0 (by omega), hm 1 (by omega), hm 2 (by omega), hm 3 (by omega), hm 4 (by omega), hm 5 (by omega)]; exact z
  · have z := h12 m hm8 k hk
    unfold RelN at z ⊢
    rw [ho (20 + 4 * k + 1) (by omega), ho (20 + 4 * k + 2) (by omega), ho (20 + 4 * k + 3) (by omega), ho (20 + 4 * k) (by omega), hm 6 (by omega), hm 7 (by omega), hm 8 (by omega)]; exact z
  · have z := h13 j hj
    unfold RelP at z ⊢
    rw [ho 9 (by omega), ho 10 (by omega), ho 11 (by omega), ho 12 (by omega), hm 12 (by omega)]; exact z
  · have z := h14 i j hi hj
    unfold bBef at z ⊢
    rw [ho (20 + 4 * od i) (by omega), ho (20 + 4 * od j) (by omega)]; exact z
  · rw [hm 5 (by omega), hm 6 (by omega), hm 7 (by omega), hm 8 (by omega)]; exact h16 k hk hk4
section Ps10
variable {l : Launch} {D : va_G} {tys : List (ClassId × FieldType)} {cI cZ cO cJ : ClassId} {mi e0 : Nat} {sa : Nat → Nat} {shm : xS} {adm : Nat → Nat}
theorem P_holders (hst : l.stackTraces = false) (M : xMm shm adm cI tys) (hT3 : tys[3]? = some (cJ, .long)) : LawP l D tys mi e0 sa shm adm (LI cI cZ cO cJ tys e0) yL_holders wsL_holders yX3_holders wsX3_holders 2 1 := by
  intro t sh ad V Vm xs hxs ht ⟨nb, nc, od, DW, h16, R⟩
  obtain ⟨x, rfl⟩ := one_arg hxs
  have hb : nb ≤ 40 := DW.dl.2.2.2.2.2.2.2.2
  obtain ⟨r1, r2, r3, r4, -⟩ := id R
  by_cases h : 0 ≤ x ∧ x < nI nb
  · obtain ⟨k, hk, rfl⟩ := bun_nat hb h
    refine ⟨0, mSet Vm k 8, _, (w_holders_ok l DW h16 hT3 V r2 r3 k hk).mono ?_, c_X3_holders_ok l M Vm k (by omega) (by rw [r4]; exact (bun_iff hb).mpr h), by rw [xu_row, if_pos rfl]⟩
    rintro v sh' ad' V' ⟨rfl, rfl, rfl, rfl⟩
    refine ⟨rfl, ⟨nb, nc, od, DW, h16, ((R.eqC (fun i _ _ h => xu_ne _ _ _ h)).thr hb 0).mono⟩, rfl, rfl, fun _ => ?_⟩
    rw [xu_row, if_pos rfl]
    exact R.bits hk
  · refine ⟨1, -1, _, (w_holders_bad l hst DW h16 hT3 V r2 r3 x h).mono ?_, c_X3_holders_bad l M Vm x (by rw [r4]; exact fun z => h ((bun_iff hb).mp z)), by rw [xu_row, if_pos rfl]⟩
    rintro v sh' ad' V' ⟨rfl, rfl, rfl, rfl⟩
    exact ⟨rfl, ⟨nb, nc, od, DW, h16, (R.thr hb 1).mono⟩, rfl, rfl, fun z => absurd z (by decide)⟩
theorem P_pass (hst : l.stackTraces = false) (M : xMm shm adm cI tys) (hT3 : tys[3]? = some (cJ, .long)) : LawP l D tys mi e0 sa shm adm (LI cI cZ cO cJ tys e0) yL_pass wsL_pass yX3_pass wsX3_pass 2 1 := by
  intro t sh ad V Vm xs hxs ht ⟨nb, nc, od, DW, h16, R⟩
  obtain ⟨x, rfl⟩ := one_arg hxs
  have hb : nb ≤ 40 := DW.dl.2.2.2.2.2.2.2.2
  obtain ⟨r1, r2, r3, r4, r5, r6, ⟨T, r7, r8, r9⟩, -⟩ := id R
  by_cases h : 1 ≤ x ∧ x ≤ 10000
  · have R1 := (R.thr hb 0).tick h
    rw [show xu Vm 17 20 0 17 19 = Vm 17 19 by rw [xu_row, if_neg (by decide)]] at R1
    have e : Vm 17 19 = V 0 0 := by rw [r8, r9]
    have c := c_X3_pass_ok (D := D) l M Vm x nb h r4 hb
    rw [e] at c R1
    refine ⟨0, _, _, (w_pass_ok l DW h16 hT3 V r2 r3 x h).mono ?_, c, ?_⟩
    · rintro v sh' ad' V' ⟨rfl, rfl, rfl, rfl⟩
      refine ⟨rfl, ⟨nb, nc, od, DW, h16, (R1.passed hb (V 0 0) (V 0 0 + x) nb (Nat.le_refl _)).eqC (fun i _ _ h => xu_ne _ _ _ h)⟩, rfl, rfl, fun _ => ?_⟩
      rw [xu_row, if_pos rfl]
      congr 1
      exact cntP_congr (fun k hk => (R1.gn hk _ _).symm)
    · rw [mPass_o _ _ _ _ (by decide) (by decide), xu_row, if_neg (by decide), xu_row, if_pos rfl]
  · refine ⟨1, -1, _, (w_pass_bad l hst DW h16 hT3 V r2 r3 x h).mono ?_, c_X3_pass_bad l M Vm x h, by rw [xu_row, if_pos rfl]⟩
    rintro v sh' ad' V' ⟨rfl, rfl, rfl, rfl⟩
    exact ⟨rfl, ⟨nb, nc, od, DW, h16, (R.thr hb 1).mono⟩, rfl, rfl, fun z => absurd z (by decide)⟩
end Ps10
