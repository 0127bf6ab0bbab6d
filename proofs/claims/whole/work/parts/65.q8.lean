/-! THE PURE PART: meet: receipts, and what is to be done -/
section RelT
variable {nb nc t : Nat} {od : Nat → Nat} {V Vm : xV}
theorem bLearn_z (V : xV) (k n : Nat) {i : Nat} (h : ∀ j, j < 4 → i ≠ 20 + 4 * k + j) : bLearn V (20 + 4 * k) n i = V i :=
  bLearn_o _ _ _ (h 0 (by omega)) (h 1 (by omega)) (h 2 (by omega)) (h 3 (by omega))
theorem Rel.talk (h : Rel nb nc t od V Vm) (hb : nb ≤ 40) {a b : Nat} (ha : a < 8) (hb8 : b < 8) (k : Nat) (hk : k ≤ nb) :
    Rel nb nc t od (cTalk V a b k) (mTalk Vm a b k) ∧ (∀ j, j < k → cTalk V a b k (20 + 4 * j + 3) a = cTalk V a b k (20 + 4 * j + 3) b) := by
  induction k with
  | zero => exact ⟨h, fun j hj => absurd hj (Nat.not_lt_zero j)⟩
  | succ k ih =>
    obtain ⟨R, E⟩ := ih (by omega)
    unfold cTalk mTalk
    generalize cTalk V a b k = W at R E ⊢
    generalize mTalk Vm a b k = Wm at R ⊢
    obtain ⟨-, -, x3, x4, -⟩ := R.rn a ha k hk
    obtain ⟨-, -, y3, y4, -⟩ := R.rn b hb8 k hk
    have both : ∀ j, j < k + 1 → bLearn (bLearn W (20 + 4 * k) a) (20 + 4 * k) b (20 + 4 * j + 3) a = bLearn (bLearn W (20 + 4 * k) a) (20 + 4 * k) b (20 + 4 * j + 3) b := by
      intro j hj
      by_cases e : j = k
      · subst e
        rw [bLearn_3, bLearn_3, bLearn_3, bLearn_3, if_pos rfl]
        split
        · rw [if_pos rfl]
        · rw [if_pos rfl]
      · rw [bLearn_z _ _ _ (fun q hq => by omega), bLearn_z _ _ _ (fun q hq => by omega)]
        exact E j (by omega)
    rw [x3, y3]
    rcases x4 with x4 | x4 <;> rcases y4 with y4 | y4
    · rw [x4, y4, if_pos ⟨rfl, rfl⟩, if_neg (by decide)]
      refine ⟨R, fun j hj => ?_⟩
      by_cases e : j = k
      · subst e; rw [x4, y4]
      · exact E j (by omega)
    · rw [x4, y4, if_neg (by decide), if_pos (by decide)]
      exact ⟨(R.learn hb ha hk).learn hb hb8 hk, both⟩
    · rw [x4, y4, if_neg (by decide), if_pos (by decide)]
      exact ⟨(R.learn hb ha hk).learn hb hb8 hk, both⟩
    · rw [x4, y4, if_neg (by decide), if_neg (by decide)]
      refine ⟨(R.learn2 hb ha hk x4).learn2 hb hb8 hk ?_, both⟩
      rw [bLearn_3]
      split
      · rfl
      · exact y4
/-- the mark of who gives is told nowhere -/
theorem Rel.mark (h : Rel nb nc t od V Vm) {V' : xV} (h1 : ∀ i, (∀ j, i ≠ 20 + 4 * j) → V' i = V i) (h2 : ∀ j i, i ≠ 10 → V' (20 + 4 * j) i = V (20 + 4 * j) i) : Rel nb nc t od V' Vm := by
  refine h.bun (fun i hi _ _ => h1 i (fun j => by omega)) (fun i hi => rfl) (fun k i hi => h2 k i (by omega)) (fun n hn => ?_) (fun k hk => ?_) (fun n hn k hk => ?_) h.fr
  · rw [h1 2 (fun j => by omega), h1 3 (fun j => by omega)]
    exact (h.rd n hn).2
  · obtain ⟨k1, k2, k3, k4, k5, k6, k7, k8⟩ := h.rk k hk
    rw [h2 k 7 (by omega), h2 k 8 (by omega), h2 k 9 (by omega)]
    exact ⟨k5, k6, k7, k8⟩
  · have r := h.rn n hn k hk
    unfold RelN at r ⊢
    rw [h1 (20 + 4 * k + 1) (fun j => by omega), h1 (20 + 4 * k + 2) (fun j => by omega), h1 (20 + 4 * k + 3) (fun j => by omega), h2 k 7 (by omega)]
    exact r
end RelT
theorem cFind_r (V : xV) (a b k : Nat) {i : Nat} (h : ∀ j, i ≠ 20 + 4 * j) : cFind V a b k i = V i := by
  induction k with
  | zero => rfl
  | succ k ih =>
    have e : ∀ (W : xV) (x : Int32), xu W (20 + 4 * k) 10 x i = W i := fun W x => xu_ne _ _ _ (h k)
    show (fun W : xV => if cCan W (20 + 4 * k) a b then xu W (20 + 4 * k) 10 (nI a) else if cCan W (20 + 4 * k) b a then xu W (20 + 4 * k) 10 (nI b) else W) (xu (cFind V a b k) (20 + 4 * k) 10 (-1)) i = _
    dsimp only
    split
    · rw [e, e, ih]
    · split
      · rw [e, e, ih]
      · rw [e, ih]
/-- who would spray a bundle -/
def gvC (V : xV) (a b k : Nat) : Int32 := if cCan V (20 + 4 * k) a b then nI a else if cCan V (20 + 4 * k) b a then nI b else -1
theorem cFind_10 (V : xV) (a b k j : Nat) : cFind V a b k (20 + 4 * j) 10 = if j < k then gvC V a b j else V (20 + 4 * j) 10 := by
  induction k with
  | zero => rw [if_neg (Nat.not_lt_zero j)]; rfl
  | succ k ih =>
    show (fun W : xV => if cCan W (20 + 4 * k) a b then xu W (20 + 4 * k) 10 (nI a) else if cCan W (20 + 4 * k) b a then xu W (20 + 4 * k) 10 (nI b) else W) (xu (cFind V a b k) (20 + 4 * k) 10 (-1)) (20 + 4 * j) 10 = _
    dsimp only
    simp only [cCan_x]
    have can : ∀ f g, cCan (cFind V a b k) (20 + 4 * k) f g ↔ cCan V (20 + 4 * k) f g := by
      intro f g
      unfold cCan
      rw [cFind_f _ _ _ _ _ (show (1 : Nat) ≠ 10 by decide), cFind_r _ _ _ _ (show ∀ j, 20 + 4 * k + 1 ≠ 20 + 4 * j from fun j => by omega)]
    simp only [can]
    by_cases e : j = k
    · subst e
      rw [if_pos (show j < j + 1 by omega)]
      unfold gvC
      split
      · rw [xu_row, if_pos rfl]
      · split
        · rw [xu_row, if_pos rfl]
        · rw [xu_row, if_pos rfl]
    · have u : ∀ (W : xV) (x : Int32), xu W (20 + 4 * k) 10 x (20 + 4 * j) 10 = W (20 + 4 * j) 10 := fun W x => by rw [xu_ne _ _ _ (by omega)]
      have r : (if j < k + 1 then gvC V a b j else V (20 + 4 * j) 10) = if j < k then gvC V a b j else V (20 + 4 * j) 10 := by
        by_cases c : j < k
        · rw [if_pos c, if_pos (by omega)]
        · rw [if_neg c, if_neg (by omega)]
      rw [r, ← ih]
      split
      · rw [u, u]
      · split
        · rw [u, u]
        · rw [u]
/-- the jobs stand in the order of bundles -/
theorem ga_spec {nb nc t : Nat} {od : Nat → Nat} {V Vm : xV} (R : Rel nb nc t od V Vm) (hb : nb ≤ 40) (P : Nat → Nat → Nat → Bool) (a b begun : Nat) (S : Nat → Bool) (hS : ∀ k, S k = (P b a k || P a b k)) (K : Nat) (hK : K ≤ nb) :
    (mGa Vm P a b begun K).1 = begun + cntP S K ∧
    (∀ i, i < nb → S (od i) = true → od i < K → (mGa Vm P a b begun K).2.1 (begun + cntP (fun j => S (od j) && decide (od j < K)) i) = nI (od i) ∧ (mGa Vm P a b begun K).2.2 (begun + cntP (fun j => S (od j) && decide (od j < K)) i) = if P b a (od i) = true then nI b else nI a) ∧
    (∀ j, j < begun → (mGa Vm P a b begun K).2.1 j = Vm 13 j ∧ (mGa Vm P a b begun K).2.2 j = Vm 14 j) := by
  induction K with
  | zero => exact ⟨rfl, fun i _ _ z => absurd z (Nat.not_lt_zero _), fun j _ => ⟨rfl, rfl⟩⟩
  | succ K ih =>
    obtain ⟨i1, i2, i3⟩ := ih (by omega)
    by_cases c : S K = true
    · obtain ⟨p, hp, ep⟩ := R.od_sur (show K < nb from hK)
      have hg : mGa Vm P a b begun (K + 1) = mIns Vm K begun (if P b a K = true then nI b else nI a) (mGa Vm P a b begun K) := by
        by_cases d : P b a K = true
        · rw [mGa_b d, if_pos d]
        · rw [if_neg d]
          refine mGa_a d ?_
          rw [hS, Bool.or_eq_true] at c
          rcases c with c | c
          · exact absurd c d
          · exact c
      obtain ⟨g, hge⟩ : ∃ g, g = (if P b a K = true then nI b else nI a) := ⟨_, rfl⟩
      rw [← hge] at hg
      rw [hg, cntP_t c]
      generalize hQ : (fun j => S (od j) && decide (od j < K)) = Q at i2
      have qd : ∀ j, Q j = (S (od j) && decide (od j < K)) := fun j => by rw [← hQ]
      have tot : cntP Q nb = cntP S K := by
        rw [← hQ, R.cnt_od (fun x => S x && decide (x < K)), cntP_cut (by omega)]
      have qp : ¬ Q p = true := by rw [qd, ep]; simp
      have q2 : ∀ i, i ≤ nb → cntP (fun j => S (od j) && decide (od j < K + 1)) i = cntP Q i + (if p < i then 1 else 0) := by
        intro i hi
        induction i with
        | zero => rfl
        | succ i ih2 =>
          have z := ih2 (by omega)
          by_cases e : i = p
          · have u : (fun j => S (od j) && decide (od j < K + 1)) i = true := by
              show (S (od i) && decide (od i < K + 1)) = true
              rw [e, ep, c]; simp
            rw [cntP_t u, z, if_neg (by omega), if_pos (by omega), cntP_f (by rw [e]; exact qp)]
          · have ne : od i ≠ K := fun w => e (R.od_inj (by omega) hp (w.trans ep.symm))
            have u : (fun j => S (od j) && decide (od j < K + 1)) i = Q i := by
              rw [qd]
              show (S (od i) && decide (od i < K + 1)) = _
              congr 1
              by_cases w : od i < K
              · rw [decide_eq_true w, decide_eq_true (by omega)]
              · rw [decide_eq_false w, decide_eq_false (by omega)]
            by_cases w : Q i = true
            · rw [cntP_t (u.trans w), cntP_t w, z]
              by_cases y : p < i
              · rw [if_pos y, if_pos (by omega)]
              · rw [if_neg y, if_neg (by omega)]
            · rw [cntP_f (fun y => w (u.symm.trans y)), cntP_f w, z]
              by_cases y : p < i
              · rw [if_pos y, if_pos (by omega)]
              · rw [if_neg y, if_neg (by omega)]
      -- where it goes
      have pos : ∀ q, cntP Q p ≤ q → q ≤ cntP S K → insP Vm K begun (mGa Vm P a b begun K).2.1 q = begun + cntP Q p := by
        intro q
        induction q with
        | zero => intro z _; rw [show cntP Q p = 0 by omega]; rfl
        | succ q ih2 =>
          intro h1 h2
          obtain ⟨i, hi, hQi, hci⟩ := cntP_hit (P := Q) (n := nb) (m := q) (by rw [tot]; omega)
          have hQi' := hQi
          rw [qd, Bool.and_eq_true] at hQi'
          have f := (i2 i hi hQi'.1 (of_decide_eq_true hQi'.2)).1
          rw [hci] at f
          have fn : ((mGa Vm P a b begun K).2.1 (begun + (q + 1) - 1)).toNatClampNeg = od i := by
            rw [show begun + (q + 1) - 1 = begun + q by omega, f, nI_clamp (by have := R.od_lt hi; omega)]
          have ip : i ≠ p := fun w => qp (by rw [← w]; exact hQi)
          have pre : mPre Vm K (od i) = decide (p < i) := by rw [← ep]; exact R.pre hb hp hi
          by_cases w : cntP Q p ≤ q
          · have lt : p < i := by
              rcases Nat.lt_trichotomy i p with y | y | y
              · have := cntP_lt (P := Q) y hQi; omega
              · exact absurd y ip
              · exact y
            rw [insP_t (q := q + 1) (by omega) (by rw [fn, pre]; exact decide_eq_true lt)]
            exact ih2 w (by omega)
          · have ge : ¬ p < i := fun y => by
              have := cntP_mono Q (show p ≤ i by omega)
              omega
            rw [insP_f (q := q + 1) (by omega) (by rw [fn, pre, decide_eq_true_eq]; exact ge)]
            omega
      have le1 : cntP Q p ≤ cntP S K := by rw [← tot]; exact cntP_mono Q (by omega)
      have posn : insP Vm K begun (mGa Vm P a b begun K).2.1 ((mGa Vm P a b begun K).1 - begun) = begun + cntP Q p := by
        rw [i1, Nat.add_sub_cancel_left]
        exact pos _ le1 (Nat.le_refl _)
      refine ⟨?_, fun i hi hSi hlt => ?_, fun j hj => ?_⟩
      · show (mGa Vm P a b begun K).1 + 1 = _
        rw [i1]; omega
      · rw [q2 i (by omega)]
        show insF (mGa Vm P a b begun K).2.1 (insP Vm K begun (mGa Vm P a b begun K).2.1 ((mGa Vm P a b begun K).1 - begun)) (mGa Vm P a b begun K).1 (nI K) _ = _ ∧ insF (mGa Vm P a b begun K).2.2 (insP Vm K begun (mGa Vm P a b begun K).2.1 ((mGa Vm P a b begun K).1 - begun)) (mGa Vm P a b begun K).1 g _ = _
        rw [posn, i1]
        unfold insF
        by_cases e : i = p
        · subst e
          rw [if_neg (show ¬ i < i by omega), Nat.add_zero, if_neg (by omega), if_pos rfl, if_neg (by omega), if_pos rfl, ep]
          exact ⟨rfl, hge⟩
        · have ne : od i ≠ K := fun w => e (R.od_inj hi hp (w.trans ep.symm))
          have hlt' : od i < K := by omega
          have hQi : Q i = true := by rw [qd, hSi, decide_eq_true hlt']; rfl
          obtain ⟨f1, f2⟩ := i2 i hi hSi hlt'
          rcases Nat.lt_or_ge i p with y | y
          · have lt := cntP_lt (P := Q) y hQi
            rw [if_neg (show ¬ p < i by omega), Nat.add_zero, if_pos (by omega), if_pos (by omega)]
            exact ⟨f1, f2⟩
          · have ge := cntP_mono Q y
            have lt := cntP_lt (P := Q) hi hQi
            rw [tot] at lt
            rw [if_pos (show p < i by omega), if_neg (by omega), if_neg (by omega), if_pos (by omega), if_neg (by omega), if_neg (by omega), if_pos (by omega), show begun + (cntP Q i + 1) - 1 = begun + cntP Q i by omega]
            exact ⟨f1, f2⟩
      · show insF (mGa Vm P a b begun K).2.1 (insP Vm K begun (mGa Vm P a b begun K).2.1 ((mGa Vm P a b begun K).1 - begun)) (mGa Vm P a b begun K).1 (nI K) _ = _ ∧ insF (mGa Vm P a b begun K).2.2 (insP Vm K begun (mGa Vm P a b begun K).2.1 ((mGa Vm P a b begun K).1 - begun)) (mGa Vm P a b begun K).1 g _ = _
        rw [posn]
        unfold insF
        rw [if_pos (by omega), if_pos (by omega)]
        exact i3 j hj
    · have d1 : ¬ P b a K = true := fun z => c (by rw [hS, z]; rfl)
      have d2 : ¬ P a b K = true := fun z => c (by rw [hS, z, Bool.or_true])
      rw [mGa_0 d1 d2, cntP_f c]
      have same : ∀ j, (S (od j) && decide (od j < K + 1)) = (S (od j) && decide (od j < K)) := by
        intro j
        by_cases e : od j = K
        · rw [e, Bool.eq_false_iff.mpr c]; rfl
        · congr 1
          by_cases w : od j < K
          · rw [decide_eq_true w, decide_eq_true (by omega)]
          · rw [decide_eq_false w, decide_eq_false (by omega)]
      refine ⟨i1, fun i hi hSi hlt => ?_, i3⟩
      simp only [same]
      have ne : od i ≠ K := fun w => c (by rw [← w]; exact hSi)
      exact i2 i hi hSi (by omega)
