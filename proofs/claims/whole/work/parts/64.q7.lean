/-! THE PURE PART: arrival, arrivalByRounds, promised -/
def cRw (nc : Nat) (V : xV) : xV := (pRow V nc).1
theorem pRow_un (V : xV) (k : Nat) (h : ¬ (pRow V k).2 = true) : (pRow V k).1 = V := by
  induction k with
  | zero => rfl
  | succ k ih =>
    by_cases c : pCarB (pRow V k).1 k (pOne V k) (pTwo V k) = true
    · rw [pRow_1 c] at h
      exact absurd rfl h
    · by_cases d : pCarB (pCarV (pRow V k).1 k (pOne V k) (pTwo V k)) k (pTwo V k) (pOne V k) = true
      · rw [pRow_2 c d] at h
        exact absurd rfl h
      · rw [pRow_3 c d] at h ⊢
        have e1 : pCarV (pRow V k).1 k (pOne V k) (pTwo V k) = (pRow V k).1 := if_neg c
        rw [e1] at d
        show pCarV (pCarV (pRow V k).1 k (pOne V k) (pTwo V k)) k (pTwo V k) (pOne V k) = V
        rw [e1, show pCarV (pRow V k).1 k (pTwo V k) (pOne V k) = (pRow V k).1 from if_neg d]
        exact ih h
theorem pRow_both (V : xV) (k : Nat) : (pRow V (k + 1)).1 = pCarV (pCarV (pRow V k).1 k (pOne V k) (pTwo V k)) k (pTwo V k) (pOne V k) := by
  by_cases c : pCarB (pRow V k).1 k (pOne V k) (pTwo V k) = true
  · rw [pRow_1 c]
    have e : pCarV (pRow V k).1 k (pOne V k) (pTwo V k) = xu (pRow V k).1 13 (pTwo V k) (pSec (pRow V k).1 k (pOne V k)) := if_pos c
    have f : ¬ pCarB (pCarV (pRow V k).1 k (pOne V k) (pTwo V k)) k (pTwo V k) (pOne V k) = true := by
      refine pCar_f2 (i_nlt.mpr ?_)
      have z1 := pSec_ge (pCarV (pRow V k).1 k (pOne V k) (pTwo V k)) k (pTwo V k)
      have z2 := pCar_le (pRow V k).1 k (pOne V k) (pTwo V k) (pOne V k)
      have z3 := pSec_ge (pRow V k).1 k (pOne V k)
      have z4 : pCarV (pRow V k).1 k (pOne V k) (pTwo V k) 13 (pTwo V k) = pSec (pRow V k).1 k (pOne V k) := by rw [e, xu_row, if_pos rfl]
      rw [z4] at z1
      rw [i_le] at *
      omega
    exact (show pCarV (pCarV (pRow V k).1 k (pOne V k) (pTwo V k)) k (pTwo V k) (pOne V k) = pCarV (pRow V k).1 k (pOne V k) (pTwo V k) from if_neg f).symm
  · by_cases d : pCarB (pCarV (pRow V k).1 k (pOne V k) (pTwo V k)) k (pTwo V k) (pOne V k) = true
    · rw [pRow_2 c d]
    · rw [pRow_3 c d]
theorem AR.side {V Vm : xV} {k u v : Nat} (h : AR V Vm) (hp : RelP V Vm k) (hu : u < 8) (hv : v < 8) : AR (pCarV V k u v) (if Vm 15 u < 0 then Vm else mImp Vm v (mUse Vm k (Vm 15 u))) := by
  obtain ⟨u1, u2⟩ := h u hu
  by_cases c : V 13 u = NEV
  · rw [if_pos (by rw [u1, enc_neg u2]; exact c), show pCarV V k u v = V from if_neg (car_NEV hp c)]
    exact h
  · rw [if_neg (by rw [u1, enc_neg u2]; exact c)]
    exact h.carry hp hu hv c
theorem AR.row {V Vm : xV} {nc : Nat} (h : AR V Vm) (hp : HP nc V Vm) (k : Nat) (hk : k ≤ nc) : AR (pRow V k).1 (mRow Vm k) := by
  induction k with
  | zero => exact h
  | succ k ih =>
    have i1 := ih (by omega)
    obtain ⟨t1, t2, t3, t4⟩ := hp.two (show k < nc from hk)
    have hp' : RelP (pRow V k).1 (mRow Vm k) k := (hp.eq (pRow_o _ _ (by decide)) (pRow_o _ _ (by decide)) (pRow_o _ _ (by decide)) (pRow_o _ _ (by decide)) (mRow_o _ _ (by decide))) k hk
    rw [pRow_both]
    unfold mRow mRel
    rw [t1, t2]
    have s1 := i1.side (v := pTwo V k) hp' t3 t4
    have m1 : (if mRow Vm k 15 (pOne V k) < 0 then mRow Vm k else mImp (mRow Vm k) (pTwo V k) (mUse (mRow Vm k) k (mRow Vm k 15 (pOne V k)))) 12 = mRow Vm k 12 := by
      split
      · rfl
      · exact mImp_o _ _ _ (by decide)
    have hp2 : RelP (pCarV (pRow V k).1 k (pOne V k) (pTwo V k)) (if mRow Vm k 15 (pOne V k) < 0 then mRow Vm k else mImp (mRow Vm k) (pTwo V k) (mUse (mRow Vm k) k (mRow Vm k 15 (pOne V k)))) k := by
      unfold RelP at hp' ⊢
      rw [pCarV_o _ _ _ _ (by decide), pCarV_o _ _ _ _ (by decide), pCarV_o _ _ _ _ (by decide), pCarV_o _ _ _ _ (by decide), m1]
      exact hp'
    exact s1.side hp2 t4 t3
theorem mRnd_in (V : xV) (nc r : Nat) : mRnd V nc (r + 1) = mRnd (mRow V nc) nc r := by
  induction r with
  | zero => rfl
  | succ r ih =>
    show mRow (mRnd V nc (r + 1)) nc = mRow (mRnd (mRow V nc) nc r) nc
    rw [ih]
theorem rounds_un {nc : Nat} {V : xV} (hu : (pRow V nc).1 = V) (f : Nat) {Vm : xV} (h : AR V Vm) (hp : HP nc V Vm) : AR V (mRnd Vm nc f) := by
  induction f generalizing Vm with
  | zero => exact h
  | succ f ih =>
    rw [mRnd_in]
    have z := h.row hp nc (Nat.le_refl _)
    rw [hu] at z
    exact ih z (hp.eq rfl rfl rfl rfl (mRow_o _ _ (by decide)))
theorem rounds {nc : Nat} (f : Nat) {V Vm : xV} (h : AR V Vm) (hp : HP nc V Vm) : AR (pRnd nc f V) (mRnd Vm nc f) := by
  induction f generalizing V Vm with
  | zero => exact h
  | succ f ih =>
    have z := h.row hp nc (Nat.le_refl _)
    have hp' : HP nc (pRow V nc).1 (mRow Vm nc) := hp.eq (pRow_o _ _ (by decide)) (pRow_o _ _ (by decide)) (pRow_o _ _ (by decide)) (pRow_o _ _ (by decide)) (mRow_o _ _ (by decide))
    unfold pRnd
    by_cases c : (pRow V nc).2 = true
    · rw [if_pos c, mRnd_in]
      exact ih z hp'
    · rw [if_neg c]
      have e := pRow_un V nc c
      rw [e]
      exact rounds_un e (f + 1) h hp
theorem AH.round {nc : Nat} {V Vm : xV} (h : AH nc V Vm) {n d : Nat} (hd : d < 8) : mRnd (mBeg Vm n 8) nc 8 15 d = enc (pAll V n nc (V 0 0) 13 d) ∧ 0 ≤ pAll V n nc (V 0 0) 13 d := by
  obtain ⟨a1, a2, a3⟩ := h.beg n
  unfold pAll
  exact rounds 8 a1 a3 d hd
theorem AH.prom {nc : Nat} {V Vm : xV} (h : AH nc V Vm) {k d : Nat} (hd : d < 8) (hk : ∀ n, n < 8 → Vm 6 (40 * n + k) = V (20 + 4 * k + 1) n) (i : Nat) (hi : i ≤ 8) : mPrL Vm k d nc i = enc (cPr V (20 + 4 * k) d nc i).1 ∧ 0 ≤ (cPr V (20 + 4 * k) d nc i).1 := by
  induction i with
  | zero => exact ⟨enc_NEV.symm, by show (0 : Int32) ≤ NEV; decide⟩
  | succ i ih =>
    obtain ⟨i1, i2⟩ := ih (by omega)
    rw [mPrL_s]
    have o : ∀ {j : Nat}, j ≠ 13 → j ≠ 14 → (cPr V (20 + 4 * k) d nc i).2 j = V j := fun a b => cPr_o _ _ _ _ _ a b
    have om : ∀ {j : Nat}, j ≠ 15 → j ≠ 16 → mPrV Vm k d nc i j = Vm j := fun a b => mPrV_o _ _ _ _ _ a b
    have hA : AH nc (cPr V (20 + 4 * k) d nc i).2 (mPrV Vm k d nc i) := h.eq (o (by decide) (by decide)) (o (by decide) (by decide)) (o (by decide) (by decide)) (o (by decide) (by decide)) (o (by decide) (by decide)) (om (by decide) (by decide)) (by rw [om (by decide) (by decide)])
    obtain ⟨q1, q2⟩ := hA.reach (n := i) hd
    rw [o (show (0 : Nat) ≠ 13 by decide) (by decide)] at q1 q2
    by_cases c : 0 < V (20 + 4 * k + 1) i
    · have eA : mPrA Vm k d nc i = enc (pFin (cPr V (20 + 4 * k) d nc i).2 i d nc (V 0 0) 13 d) := by
        unfold mPrA
        rw [hk i hi, if_neg (i_nle.mpr c)]
        exact q1
      rw [cPr_t (by rw [o (by omega) (by omega)]; exact c), eA, i1]
      generalize pFin (cPr V (20 + 4 * k) d nc i).2 i d nc (V 0 0) 13 d = p at q2 ⊢
      generalize (cPr V (20 + 4 * k) d nc i).1 = e at i2 ⊢
      show (if enc p < 0 then enc e else if enc e < 0 then enc p else if enc e ≤ enc p then enc e else enc p) = enc (if p < e then p else e) ∧ 0 ≤ (if p < e then p else e)
      refine ⟨?_, ?_⟩
      · by_cases pN : p = NEV
        · have n1 : ¬ p < e := by rw [pN]; exact i_nlt.mpr (le_NEV e)
          rw [if_pos ((enc_neg q2).mpr pN), if_neg n1]
        · rw [if_neg (fun z => pN ((enc_neg q2).mp z))]
          by_cases eN : e = NEV
          · have n1 : p < e := by
              rw [eN]
              have := le_NEV p
              rw [i_le] at this
              rw [i_eq] at pN
              rw [i_lt]; omega
            rw [if_pos ((enc_neg i2).mpr eN), if_pos n1]
          · rw [if_neg (fun z => eN ((enc_neg i2).mp z)), enc_ne eN, enc_ne pN]
            by_cases z : p < e
            · rw [if_pos z, if_neg (i_nle.mpr z), enc_ne pN]
            · rw [if_neg z, if_pos (i_nlt.mp z), enc_ne eN]
      · split
        · exact q2
        · exact i2
    · have eA : mPrA Vm k d nc i = -1 := by
        unfold mPrA
        rw [hk i hi, if_pos (i_nlt.mp c)]
      rw [cPr_f (by rw [o (by omega) (by omega)]; exact c), eA, if_pos (by decide)]
      exact ⟨i1, i2⟩
section Ps14
variable {l : Launch} {D : va_G} {tys : List (ClassId × FieldType)} {cI cZ cO cJ : ClassId} {mi e0 : Nat} {sa : Nat → Nat} {shm : xS} {adm : Nat → Nat}
theorem P_arrival (hst : l.stackTraces = false) (M : xMm shm adm cI tys) (hT3 : tys[3]? = some (cJ, .long)) : LawP l D tys mi e0 sa shm adm (LI cI cZ cO cJ tys e0) yL_arrival wsL_arrival yX3_arrival wsX3_arrival 2 2 := by
  intro t sh ad V Vm xs hxs ht ⟨nb, nc, od, DW, h16, R⟩
  obtain ⟨x, y, rfl⟩ := two_arg hxs
  have hb : nb ≤ 40 := DW.dl.2.2.2.2.2.2.2.2
  obtain ⟨r1, r2, r3, r4, r5, r6, -⟩ := id R
  have fin : LI cI cZ cO cJ tys e0 (t + 1) sh ad V (xu Vm 17 20 1) := ⟨nb, nc, od, DW, h16, (R.thr hb 1).mono⟩
  have A := R.ah (by omega)
  by_cases h : 0 ≤ x ∧ x ≤ 7
  · obtain ⟨n, hn, rfl⟩ := nod_nat h
    by_cases h2 : 0 ≤ y ∧ y ≤ 7
    · obtain ⟨d, hd, rfl⟩ := nod_nat h2
      have R0 := R.thr hb 0
      obtain ⟨q1, q2⟩ := (R0.ah (by omega)).reach (n := n) hd
      refine ⟨0, _, _, (w_arrival_ok l DW h16 hT3 V r2 r3 n d nc hn hd r5 r1 A.1.cp).mono ?_, c_X3_arrival_ok l M Vm n d nc hn hd r6 r1 A.1.mp, by rw [mFin_o _ _ _ (by decide) (by decide), xu_row, if_pos rfl]⟩
      rintro v sh' ad' V' ⟨rfl, rfl, rfl, rfl⟩
      refine ⟨rfl, ⟨nb, nc, od, DW, h16, ((R0.eqM hb (fun k hk => by rw [mFin_o _ _ _ (by decide) (by decide)]) (fun i hi => mFin_o _ _ _ (by omega) (by omega))).eqC (fun i a b c => by rw [xu_ne _ _ _ c, pFin_o _ _ _ _ _ a b])).mono⟩, rfl, rfl, fun _ => ?_⟩
      rw [xu_row, if_pos rfl, q1]
      rfl
    · refine ⟨1, -1, _, (w_arrival_bad2 l hst DW h16 hT3 V r2 r3 n hn y h2).mono ?_, c_X3_arrival_bad l M Vm (nI n) y (fun z => h2 z.2), by rw [xu_row, if_pos rfl]⟩
      rintro v sh' ad' V' ⟨rfl, rfl, rfl, rfl⟩
      exact ⟨rfl, fin, rfl, rfl, fun z => absurd z (by decide)⟩
  · refine ⟨1, -1, _, (w_arrival_bad1 l hst DW h16 hT3 V r2 r3 x y h).mono ?_, c_X3_arrival_bad l M Vm x y (fun z => h z.1), by rw [xu_row, if_pos rfl]⟩
    rintro v sh' ad' V' ⟨rfl, rfl, rfl, rfl⟩
    exact ⟨rfl, fin, rfl, rfl, fun z => absurd z (by decide)⟩
theorem P_arrivalByRounds (hst : l.stackTraces = false) (M : xMm shm adm cI tys) (hT3 : tys[3]? = some (cJ, .long)) : LawP l D tys mi e0 sa shm adm (LI cI cZ cO cJ tys e0) yL_arrivalByRounds wsL_arrivalByRounds yX3_arrivalByRounds wsX3_arrivalByRounds 2 2 := by
  intro t sh ad V Vm xs hxs ht ⟨nb, nc, od, DW, h16, R⟩
  obtain ⟨x, y, rfl⟩ := two_arg hxs
  have hb : nb ≤ 40 := DW.dl.2.2.2.2.2.2.2.2
  obtain ⟨r1, r2, r3, r4, r5, r6, -⟩ := id R
  have fin : LI cI cZ cO cJ tys e0 (t + 1) sh ad V (xu Vm 17 20 1) := ⟨nb, nc, od, DW, h16, (R.thr hb 1).mono⟩
  have A := R.ah (by omega)
  by_cases h : 0 ≤ x ∧ x ≤ 7
  · obtain ⟨n, hn, rfl⟩ := nod_nat h
    by_cases h2 : 0 ≤ y ∧ y ≤ 7
    · obtain ⟨d, hd, rfl⟩ := nod_nat h2
      have R0 := R.thr hb 0
      obtain ⟨q1, q2⟩ := (R0.ah (by omega)).round (n := n) hd
      have om : ∀ {i : Nat}, i ≠ 15 → i ≠ 16 → mRnd (mBeg (xu Vm 17 20 0) n 8) nc 8 i = xu Vm 17 20 0 i := fun a b => by rw [mRnd_o _ _ _ a, mBeg_o _ _ _ a b]
      refine ⟨0, _, _, (w_arrivalByRounds_ok l DW h16 hT3 V r2 r3 n d nc hn hd r5 r1 A.1.cp).mono ?_, c_X3_arrivalByRounds_ok l M Vm n d nc hn hd r6 r1 A.1.mp, by rw [om (by decide) (by decide), xu_row, if_pos rfl]⟩
      rintro v sh' ad' V' ⟨rfl, rfl, rfl, rfl⟩
      refine ⟨rfl, ⟨nb, nc, od, DW, h16, ((R0.eqM hb (fun k hk => by rw [om (by decide) (by decide)]) (fun i hi => om (by omega) (by omega))).eqC (fun i a b c => by rw [xu_ne _ _ _ c, pAll_o _ _ _ _ a b])).mono⟩, rfl, rfl, fun _ => ?_⟩
      rw [xu_row, if_pos rfl, q1]
      rfl
    · refine ⟨1, -1, _, (w_arrivalByRounds_bad2 l hst DW h16 hT3 V r2 r3 n hn y h2).mono ?_, c_X3_arrivalByRounds_bad l M Vm (nI n) y (fun z => h2 z.2), by rw [xu_row, if_pos rfl]⟩
      rintro v sh' ad' V' ⟨rfl, rfl, rfl, rfl⟩
      exact ⟨rfl, fin, rfl, rfl, fun z => absurd z (by decide)⟩
  · refine ⟨1, -1, _, (w_arrivalByRounds_bad1 l hst DW h16 hT3 V r2 r3 x y h).mono ?_, c_X3_arrivalByRounds_bad l M Vm x y (fun z => h z.1), by rw [xu_row, if_pos rfl]⟩
    rintro v sh' ad' V' ⟨rfl, rfl, rfl, rfl⟩
    exact ⟨rfl, fin, rfl, rfl, fun z => absurd z (by decide)⟩
theorem P_promised (hst : l.stackTraces = false) (M : xMm shm adm cI tys) (hT3 : tys[3]? = some (cJ, .long)) : LawP l D tys mi e0 sa shm adm (LI cI cZ cO cJ tys e0) yL_promised wsL_promised yX3_promised wsX3_promised 2 1 := by
  intro t sh ad V Vm xs hxs ht ⟨nb, nc, od, DW, h16, R⟩
  obtain ⟨x, rfl⟩ := one_arg hxs
  have hb : nb ≤ 40 := DW.dl.2.2.2.2.2.2.2.2
  obtain ⟨r1, r2, r3, r4, r5, r6, -⟩ := id R
  have A := R.ah (by omega)
  by_cases h : 0 ≤ x ∧ x < nI nb
  · obtain ⟨k, hk, rfl⟩ := bun_nat hb h
    obtain ⟨k1, ⟨g, hg, k2, k3⟩, k4, k5, -⟩ := R.rk k hk
    have R0 := R.thr hb 0
    have eg : (V (20 + 4 * k) 1).toNatClampNeg = g := by rw [k2, nI_clamp (by omega)]
    obtain ⟨q1, q2⟩ := (R0.ah (by omega)).prom (k := k) hg (fun n hn => (R0.rn n hn k hk).1) 8 (Nat.le_refl _)
    have c1 := w_promised_ok (D := D) (mi := mi) (sa := sa) l DW h16 hT3 V r2 r3 k hk nc (by rw [eg]; exact k2) (by rw [eg]; exact hg) r5 r1 A.1.cp
    rw [eg] at c1
    have om : ∀ {i : Nat}, i ≠ 15 → i ≠ 16 → mPrV (xu Vm 17 20 0) k g nc 8 i = xu Vm 17 20 0 i := fun a b => mPrV_o _ _ _ _ _ a b
    refine ⟨0, _, _, c1.mono ?_, c_X3_promised_ok l M Vm k g nc (by omega) (by rw [r4]; exact (bun_iff hb).mpr h) k3 hg r6 r1 A.1.mp, by rw [om (by decide) (by decide), xu_row, if_pos rfl]⟩
    rintro v sh' ad' V' ⟨rfl, rfl, rfl, rfl⟩
    refine ⟨rfl, ⟨nb, nc, od, DW, h16, ((R0.eqM hb (fun k hk => by rw [om (by decide) (by decide)]) (fun i hi => om (by omega) (by omega))).eqC (fun i a b c => by rw [xu_ne _ _ _ c, cPr_o _ _ _ _ _ a b])).mono⟩, rfl, rfl, fun _ => ?_⟩
    rw [xu_row, if_pos rfl]
    unfold mPrR
    rw [q1, show xu Vm 17 20 0 2 = Vm 2 from xu_ne _ _ _ (by decide), k5]
    generalize (cPr V (20 + 4 * k) g nc 8).1 = e at q2 ⊢
    by_cases eN : e = NEV
    · rw [if_pos ((enc_neg q2).mpr eN), if_neg (show ¬ e < V (20 + 4 * k) 3 by rw [eN]; exact i_nlt.mpr (le_NEV _))]
    · rw [if_neg (fun z => eN ((enc_neg q2).mp z)), enc_ne eN, if_neg eN]
      by_cases z : e < V (20 + 4 * k) 3
      · rw [if_pos z, if_neg (i_nle.mpr z)]
      · rw [if_neg z, if_pos (i_nlt.mp z)]
  · refine ⟨1, -1, _, (w_promised_bad l hst DW h16 hT3 V r2 r3 x h).mono ?_, c_X3_promised_bad l M Vm x (by rw [r4]; exact fun z => h ((bun_iff hb).mp z)), by rw [xu_row, if_pos rfl]⟩
    rintro v sh' ad' V' ⟨rfl, rfl, rfl, rfl⟩
    exact ⟨rfl, ⟨nb, nc, od, DW, h16, (R.thr hb 1).mono⟩, rfl, rfl, fun z => absurd z (by decide)⟩
end Ps14
