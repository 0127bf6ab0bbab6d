/-! THE PURE PART: meet: custody, and the whole -/
section RelC
variable {nb nc t : Nat} {od : Nat → Nat} {V Vm : xV}
theorem Rel.keep (h : Rel nb nc t od V Vm) (hb : nb ≤ 40) {r k : Nat} (hr : r < 8) (hk : k < nb) (hkn : V (20 + 4 * k + 3) r ≠ 1) : Rel nb nc t od (xu V (20 + 4 * k) 7 (nI r)) (xu Vm 3 k (nI r)) := by
  obtain ⟨k1, k2, k3, k4, k5, k6, k7, k8⟩ := h.rk k hk
  have o : ∀ i, i ≠ 20 + 4 * k → xu V (20 + 4 * k) 7 (nI r) i = V i := fun i a => xu_ne _ _ _ a
  have s : ∀ i, xu V (20 + 4 * k) 7 (nI r) (20 + 4 * k) i = if i = 7 then nI r else V (20 + 4 * k) i := fun i => by rw [xu_row]
  have m : ∀ i, i ≠ 3 → xu Vm 3 k (nI r) i = Vm i := fun i a => xu_ne _ _ _ a
  refine h.one hb k hk (fun i hi => o i (by omega)) (fun k' e j hj => o _ (by omega)) (fun i hi => by rw [s, if_neg (by omega)]) (fun i _ a _ _ _ _ _ => m i a) (m 17 (by decide)) (fun k' e => ?_) (fun n k' hn hk' e => ?_) ?_ (fun n hn => ?_)
  · rw [xu_row, if_neg e, m 4 (by decide), m 5 (by decide)]
    exact ⟨rfl, rfl, rfl⟩
  · rw [m 6 (by decide), m 7 (by decide), m 8 (by decide)]
    exact ⟨rfl, rfl, rfl⟩
  · rw [s 7, s 8, s 9, if_pos rfl, if_neg (show ¬ 8 = 7 by decide), if_neg (show ¬ 9 = 7 by decide), xu_at, if_pos ⟨rfl, rfl⟩, m 4 (by decide), m 5 (by decide)]
    exact ⟨rfl, k6, k7, k8⟩
  · obtain ⟨n1, n2, n3, n4, n5, n6⟩ := h.rn n hn k hk
    unfold RelN
    rw [m 6 (by decide), m 7 (by decide), m 8 (by decide), o (20 + 4 * k + 1) (by omega), o (20 + 4 * k + 2) (by omega), o (20 + 4 * k + 3) (by omega), s 7, if_pos rfl]
    refine ⟨n1, n2, n3, n4, n5, fun z => ⟨(n6 z).1, ?_⟩⟩
    by_cases e : n = r
    · subst e; exact absurd z hkn
    · exact nI_ab hr hn (Ne.symm e)
theorem Rel.near (h : Rel nb nc t od V Vm) (hb : nb ≤ 40) (ht : t ≤ 512) {f r k : Nat} (hr : r < 8) (hk : k < nb) (hp : 0 < V (20 + 4 * k + 1) r) : Rel nb nc t od (cNear V k f r nc) (mEntK Vm f r k nc) := by
  obtain ⟨k1, ⟨g, hg, k2, k3⟩, -⟩ := h.rk k hk
  obtain ⟨-, -, -, -, -, n6⟩ := h.rn r hr k hk
  have A := h.ah ht
  unfold cNear mEntK
  dsimp only
  rw [k2, k3, nI_clamp (by omega)]
  have o1 : ∀ {i : Nat}, i ≠ 13 → i ≠ 14 → pFin V r g nc (V 0 0) i = V i := fun a b => pFin_o _ _ _ _ _ a b
  have m1 : ∀ {i : Nat}, i ≠ 15 → i ≠ 16 → mFin Vm f nc i = Vm i := fun a b => mFin_o _ _ _ a b
  have A1 : AH nc (pFin V r g nc (V 0 0)) Vm := A.eq (o1 (by decide) (by decide)) (o1 (by decide) (by decide)) (o1 (by decide) (by decide)) (o1 (by decide) (by decide)) (o1 (by decide) (by decide)) rfl rfl
  have A2 : AH nc V (mFin Vm f nc) := A.eq rfl rfl rfl rfl rfl (m1 (by decide) (by decide)) (by rw [m1 (by decide) (by decide)])
  obtain ⟨y1, y2⟩ := A1.reach (n := f) hg
  rw [o1 (show (0 : Nat) ≠ 13 by decide) (by decide)] at y1 y2
  obtain ⟨x1, x2⟩ := A2.reach (n := r) hg
  have RW : Rel nb nc t od (pFin (pFin V r g nc (V 0 0)) f g nc (V 0 0)) (mFin (mFin Vm f nc) r nc) :=
    (h.eqM hb (Vm' := mFin (mFin Vm f nc) r nc) (fun q hq => by rw [mFin_o _ _ _ (by decide) (by decide), m1 (by decide) (by decide)]) (fun i hi => by rw [mFin_o _ _ _ (by omega) (by omega), m1 (by omega) (by omega)])).eqC (fun i a b c => by rw [pFin_o _ _ _ _ _ a b, o1 a b])
  have RK : Rel nb nc t od (xu (pFin (pFin V r g nc (V 0 0)) f g nc (V 0 0)) (20 + 4 * k) 7 (nI r)) (xu (mFin (mFin Vm f nc) r nc) 3 k (nI r)) := by
    refine RW.keep hb hr hk ?_
    rw [pFin_o _ _ _ _ _ (by omega) (by omega), o1 (by omega) (by omega)]
    intro z
    rw [(n6 z).1] at hp
    exact absurd hp (by decide)
  rw [x1, y1]
  generalize pFin V r g nc (V 0 0) 13 g = x at x2 ⊢
  generalize hy : pFin (pFin V r g nc (V 0 0)) f g nc (V 0 0) 13 g = y at y2 ⊢
  by_cases xN : x = NEV
  · rw [if_pos (show y ≤ x by rw [xN]; exact le_NEV y), if_pos ((enc_neg x2).mpr xN)]
    exact RW
  · rw [if_neg (fun z => xN ((enc_neg x2).mp z))]
    by_cases yN : y = NEV
    · have n1 : ¬ y ≤ x := fun z => xN (by have := le_NEV x; rw [yN] at z; rw [i_le] at z this; rw [i_eq]; omega)
      rw [if_neg n1, if_pos ((enc_neg y2).mpr yN)]
      exact RK
    · rw [if_neg (fun z => yN ((enc_neg y2).mp z)), enc_ne xN, enc_ne yN]
      by_cases z : y ≤ x
      · rw [if_pos z, if_pos z]; exact RW
      · rw [if_neg z, if_neg z]; exact RK
theorem Rel.cust (h : Rel nb nc t od V Vm) (hb : nb ≤ 40) (ht : t ≤ 512) {a b : Nat} (ha : a < 8) (hb8 : b < 8) (k : Nat) (hk : k ≤ nb) : Rel nb nc t od (cMv V a b nc k) (mEnt Vm a b nc k) := by
  induction k with
  | zero => exact h
  | succ k ih =>
    have R := ih (by omega)
    unfold cMv mEnt
    generalize cMv V a b nc k = W at R ⊢
    generalize mEnt Vm a b nc k = Wm at R ⊢
    rw [(R.rn a ha k hk).1, (R.rn b hb8 k hk).1, (R.rk k hk).2.2.2.2.1]
    by_cases c1 : 0 < W (20 + 4 * k + 1) a
    · rw [if_neg (show ¬ ¬ 0 < W (20 + 4 * k + 1) a from fun z => z c1), if_neg (i_nle.mpr c1)]
      by_cases c2 : 0 < W (20 + 4 * k + 1) b
      · rw [if_neg (show ¬ ¬ 0 < W (20 + 4 * k + 1) b from fun z => z c2), if_neg (i_nle.mpr c2)]
        by_cases d1 : W (20 + 4 * k) 7 = nI a
        · rw [if_pos d1, if_pos d1]
          exact R.near hb ht hb8 hk c2
        · rw [if_neg d1, if_neg d1]
          by_cases d2 : W (20 + 4 * k) 7 = nI b
          · rw [if_pos d2, if_pos d2]
            exact R.near hb ht ha hk c1
          · rw [if_neg d2, if_neg d2]
            exact R
      · rw [if_pos c2, if_pos (i_nlt.mp c2)]
        exact R
    · rw [if_pos c1, if_pos (i_nlt.mp c1)]
      exact R
end RelC
/-- all jobs of one kind -/
theorem ga_all {nb nc t : Nat} {od : Nat → Nat} {V Vm : xV} (R : Rel nb nc t od V Vm) (hb : nb ≤ 40) (P : Nat → Nat → Nat → Bool) (a b begun : Nat) :
    (mGa Vm P a b begun nb).1 = begun + cntP (fun j => P b a (od j) || P a b (od j)) nb ∧
    (∀ i, i < nb → (P b a (od i) || P a b (od i)) = true → (mGa Vm P a b begun nb).2.1 (begun + cntP (fun j => P b a (od j) || P a b (od j)) i) = nI (od i) ∧ (mGa Vm P a b begun nb).2.2 (begun + cntP (fun j => P b a (od j) || P a b (od j)) i) = if P b a (od i) = true then nI b else nI a) ∧
    (∀ j, j < begun → (mGa Vm P a b begun nb).2.1 j = Vm 13 j ∧ (mGa Vm P a b begun nb).2.2 j = Vm 14 j) := by
  obtain ⟨g1, g2, g3⟩ := ga_spec R hb P a b begun (fun k => P b a k || P a b k) (fun _ => rfl) nb (Nat.le_refl _)
  refine ⟨?_, fun i hi hS => ?_, g3⟩
  · rw [g1, ← R.cnt_od (fun k => P b a k || P a b k)]
  · have z := g2 i hi hS (R.od_lt hi)
    have e : cntP (fun j => (P b a (od j) || P a b (od j)) && decide (od j < nb)) i = cntP (fun j => P b a (od j) || P a b (od j)) i :=
      cntP_congr (fun j hj => by rw [decide_eq_true (R.od_lt (by omega)), Bool.and_true])
    rw [e] at z
    exact z
theorem cDl_10 (od : Nat → Nat) (a b nb : Nat) (most : Int32) (f i : Nat) (made : Int32) (W : xV) (k : Nat) : (cDl od a b nb most f i made W).2 (20 + 4 * k) 10 = W (20 + 4 * k) 10 := by
  have e : ∀ (W : xV) (q n d : Nat) (t : Int32), bDeliver W (20 + 4 * q) n d t (20 + 4 * k) 10 = W (20 + 4 * k) 10 := fun W q n d t => by
    unfold bDeliver
    rw [bLearn_g _ _ _ _ (by omega), bLearn_g _ _ _ _ (by omega), xu_g _ _ _ _ _ _ (by omega), xu_g _ _ _ _ _ _ (by omega)]
  induction f generalizing i made W with
  | zero => rfl
  | succ f ih =>
    unfold cDl
    split
    · rfl
    · split
      · rfl
      · split
        · rw [ih, e]
        · split
          · rw [ih, e]
          · rw [ih]
theorem cSl_none (od : Nat → Nat) (a b nb f : Nat) (most : Int32) (W : xV) (h : most ≤ 0) : cSl od a b nb most f 0 0 W = (0, W) := by
  cases f with
  | zero => rfl
  | succ f =>
    unfold cSl
    split
    · rfl
    · rfl
theorem mo_nat {x : Int32} (h : 0 ≤ x ∧ x ≤ 20) : ∃ n, n ≤ 20 ∧ x = nI n := by
  obtain ⟨k, hk, rfl⟩ := nat_of h.1
  exact ⟨k, (nI_leI (a := k) (b := 20) hk (by omega)).mp h.2, rfl⟩
