/-! THE PURE PART: meet -/
theorem three_arg {xs : List Int32} (h : xs.length = 3) : ∃ x y z, xs = [x, y, z] := by
  match xs, h with
  | [x, y, z], _ => exact ⟨x, y, z, rfl⟩
section RelM
variable {nb nc t : Nat} {od : Nat → Nat} {V U : xV}
set_option maxHeartbeats 2000000 in
theorem Rel.meet (h : Rel nb nc t od V U) (hb : nb ≤ 40) (ht : t ≤ 512) {a b mo : Nat} (ha : a < 8) (hb8 : b < 8) (hab : a ≠ b) (hmo : mo ≤ 20) :
    (cN2 V od a b nb (nI mo)).1 + (cN3 V od a b nb (nI mo)).1 = (mM3 U a b nb (nI mo)).1 ∧ Rel nb nc t od (cMv (cN3 V od a b nb (nI mo)).2 a b nc nb) (mEnt (mM3 U a b nb (nI mo)).2 a b nc nb) := by
  obtain ⟨R0, ke0⟩ := h.talk hb ha hb8 nb (Nat.le_refl _)
  -- the marks
  have R1 : Rel nb nc t od (cN1 V a b nb) (mM0 U a b nb) := by
    unfold cN1 mM0
    exact R0.mark (fun i hi => cFind_r _ _ _ _ hi) (fun j i hi => cFind_f _ _ _ _ _ hi)
  have ke1 : Ke nb a b (cN1 V a b nb) := fun j hj => by
    unfold cN1
    rw [cFind_r _ _ _ _ (fun q => by omega)]
    exact ke0 j hj
  -- the jobs
  obtain ⟨d1, d2, d3⟩ := ga_all R1 hb (mWD (mM0 U a b nb)) a b 0
  have eR1 : mR1 U a b nb = mGa (mM0 U a b nb) (mWD (mM0 U a b nb)) a b 0 nb := rfl
  rw [← eR1] at d1 d2 d3
  have jo1 : ∀ {i : Nat}, i ≠ 13 → i ≠ 14 → mM1 U a b nb i = mM0 U a b nb i := fun p q => by unfold mM1; rw [mJr_o _ _ _ p q]
  have R2 : Rel nb nc t od (cN1 V a b nb) (mM1 U a b nb) := R1.eqM hb (fun k hk => by rw [jo1 (by decide) (by decide)]) (fun i hi => jo1 (by omega) (by omega))
  obtain ⟨s1, s2, s3⟩ := ga_all R2 hb (mWS (mM1 U a b nb)) a b (mR1 U a b nb).1
  have eR2 : mR2 U a b nb = mGa (mM1 U a b nb) (mWS (mM1 U a b nb)) a b (mR1 U a b nb).1 nb := rfl
  rw [← eR2] at s1 s2 s3
  have jo2 : ∀ {i : Nat}, i ≠ 13 → i ≠ 14 → mM2 U a b nb i = mM1 U a b nb i := fun p q => by unfold mM2; rw [mJr_o _ _ _ p q]
  have R3 : Rel nb nc t od (cN1 V a b nb) (mM2 U a b nb) := R2.eqM hb (fun k hk => by rw [jo2 (by decide) (by decide)]) (fun i hi => jo2 (by omega) (by omega))
  have f13 : mM2 U a b nb 13 = (mR2 U a b nb).2.1 := by unfold mM2 mJr; rw [if_pos rfl]
  have f14 : mM2 U a b nb 14 = (mR2 U a b nb).2.2 := by unfold mM2 mJr; rw [if_neg (by decide), if_pos rfl]
  have m13 : mM1 U a b nb 13 = (mR1 U a b nb).2.1 := by unfold mM1 mJr; rw [if_pos rfl]
  have m14 : mM1 U a b nb 14 = (mR1 U a b nb).2.2 := by unfold mM1 mJr; rw [if_neg (by decide), if_pos rfl]
  simp only [Nat.zero_add] at d1 d2
  generalize hdel : (mR1 U a b nb).1 = del at d1 s1 s2 s3
  have hex1 : ∀ k, mWD (mM0 U a b nb) a b k = true → ¬ mWD (mM0 U a b nb) b a k = true := by
    intro k z1 z2
    unfold mWD at z1 z2
    rw [Bool.and_eq_true] at z1 z2
    have e1 := of_decide_eq_true z1.2
    have e2 := of_decide_eq_true z2.2
    exact nI_ab ha hb8 hab (e2.symm.trans e1)
  have hJ1 : ∀ i, i < nb → (mWD (mM0 U a b nb) b a (od i) || mWD (mM0 U a b nb) a b (od i)) = true → (mR2 U a b nb).2.1 (cntP (fun j => mWD (mM0 U a b nb) b a (od j) || mWD (mM0 U a b nb) a b (od j)) i) = nI (od i) ∧ (mR2 U a b nb).2.2 (cntP (fun j => mWD (mM0 U a b nb) b a (od j) || mWD (mM0 U a b nb) a b (od j)) i) = if mWD (mM0 U a b nb) b a (od i) = true then nI b else nI a := by
    intro i hi hS
    have lt : cntP (fun j => mWD (mM0 U a b nb) b a (od j) || mWD (mM0 U a b nb) a b (od j)) i < del := by rw [d1]; exact cntP_lt (P := fun j => mWD (mM0 U a b nb) b a (od j) || mWD (mM0 U a b nb) a b (od j)) hi hS
    obtain ⟨z1, z2⟩ := s3 _ lt
    rw [z1, z2, m13, m14]
    exact d2 i hi hS
  have hst : ∀ j, 0 ≤ j → j < nb → ((0 < cN1 V a b nb (20 + 4 * od j + 1) a ∧ cN1 V a b nb (20 + 4 * od j) 1 = nI b) ↔ mWD (mM0 U a b nb) a b (od j) = true) ∧ ((0 < cN1 V a b nb (20 + 4 * od j + 1) b ∧ cN1 V a b nb (20 + 4 * od j) 1 = nI a) ↔ mWD (mM0 U a b nb) b a (od j) = true) := by
    intro j _ hj
    have o := R1.od_lt hj
    obtain ⟨k1, ⟨g, hg, k2, k3⟩, -⟩ := R1.rk (od j) o
    unfold mWD
    rw [(R1.rn a ha (od j) o).1, (R1.rn b hb8 (od j) o).1, k2, k3, Bool.and_eq_true, Bool.and_eq_true, decide_eq_true_eq, decide_eq_true_eq, decide_eq_true_eq, decide_eq_true_eq]
    exact ⟨Iff.rfl, Iff.rfl⟩
  have jle : del ≤ (mR2 U a b nb).1 := by rw [s1]; omega
  have SD := sim_d hb ht ha hb8 hab (mWD (mM0 U a b nb) b a) (mWD (mM0 U a b nb) a b) (mR2 U a b nb).2.1 (mR2 U a b nb).2.2 del (mR2 U a b nb).1 mo hmo hex1 d1 jle hJ1 (nb + 1) 0 0 ((mR2 U a b nb).1 + 1) (cN1 V a b nb) (mM2 U a b nb) (Nat.zero_le _) (by omega) (Nat.zero_le _) R3 f13 f14 hst ke1 (by omega)
  obtain ⟨c', Wm', F', k', e1, e2, e3, e4, e5, e6, R4, e13, e14, ke2⟩ := SD
  rw [nI_0] at e1 e3 R4 ke2
  have eM3 : mM3 U a b nb (nI mo) = mLp a b del (mR2 U a b nb).1 nb (nI mo) ((mR2 U a b nb).1 + 1) 0 0 (mM2 U a b nb) := by unfold mM3; rw [hdel]
  have eM3' : mM3 U a b nb (nI mo) = mLp a b del (mR2 U a b nb).1 nb (nI mo) F' k' (nI c') Wm' := by rw [eM3]; exact e3
  have eN2 : cN2 V od a b nb (nI mo) = cDl od a b nb (nI mo) (nb + 1) 0 0 (cN1 V a b nb) := rfl
  rw [← eN2] at e1 R4 ke2
  have eN3 : cN3 V od a b nb (nI mo) = cSl od a b nb (nI mo - nI c') (nb + 1) 0 0 (cN2 V od a b nb (nI mo)).2 := by unfold cN3; rw [e1]
  by_cases hfull : mo ≤ c'
  · have ec : c' = mo := by omega
    have z1 : cN3 V od a b nb (nI mo) = (0, (cN2 V od a b nb (nI mo)).2) := by
      rw [eN3, nI_subN e2]
      exact cSl_none _ _ _ _ _ _ _ (by rw [ec, Nat.sub_self]; decide)
    have z2 : mM3 U a b nb (nI mo) = (nI c', Wm') := by
      rw [eM3']
      exact mLp_end e4 (Or.inr (nI_le hfull (by omega))) e6
    rw [z1, z2, e1]
    refine ⟨?_, R4.cust hb ht ha hb8 nb (Nat.le_refl _)⟩
    show nI c' + 0 = nI c'
    exact nI_add c' 0
  · have ek : k' = del := by
      rcases e5 with q | q
      · exact q
      · exact absurd q hfull
    subst ek
    have hex2 : ∀ k, mWS (mM1 U a b nb) a b k = true → ¬ mWS (mM1 U a b nb) b a k = true := by
      intro k z1 z2
      unfold mWS at z1 z2
      simp only [Bool.and_eq_true, decide_eq_true_eq] at z1 z2
      have q1 := z1.2.2.2
      have q2 := z2.1
      rw [q1] at q2
      exact absurd q2 (by decide)
    have gv : ∀ k, k < nb → (cN2 V od a b nb (nI mo)).2 (20 + 4 * k) 10 = if mWS (mM1 U a b nb) a b k = true then nI a else if mWS (mM1 U a b nb) b a k = true then nI b else -1 := by
      intro k hk
      rw [eN2, cDl_10]
      unfold cN1
      rw [cFind_10, if_pos hk]
      have R0' : Rel nb nc t od (cTalk V a b nb) (mM1 U a b nb) := R0.eqM hb (fun q hq => by rw [jo1 (by decide) (by decide)]; rfl) (fun i hi => by rw [jo1 (by omega) (by omega)]; rfl)
      have can : ∀ x y, x < 8 → y < 8 → (cCan (cTalk V a b nb) (20 + 4 * k) x y ↔ mWS (mM1 U a b nb) x y k = true) := by
        intro x y hx hy
        obtain ⟨k1, ⟨g, hg, k2, k3⟩, -⟩ := R0'.rk k hk
        obtain ⟨x1, -⟩ := R0'.rn x hx k hk
        obtain ⟨y1, ⟨c, hc, y2⟩, -⟩ := R0'.rn y hy k hk
        unfold cCan mWS
        simp only [Bool.and_eq_true, decide_eq_true_eq]
        rw [x1, y1, k2, k3]
        have t1 : ¬ cTalk V a b nb (20 + 4 * k + 1) x < 2 ↔ 1 < cTalk V a b nb (20 + 4 * k + 1) x := by
          have u1 : (1 : Int32).toInt = 1 := by decide
          have u2 : (2 : Int32).toInt = 2 := by decide
          rw [i_lt, i_lt, u1, u2]
          omega
        have t2 : ¬ 0 < cTalk V a b nb (20 + 4 * k + 1) y ↔ cTalk V a b nb (20 + 4 * k + 1) y = 0 := by
          rw [y2]
          have u0 : (0 : Int32).toInt = 0 := by decide
          rw [i_lt, i_eq, u0, nI_toInt (by omega)]
          omega
        rw [t1, t2]
        constructor
        · rintro ⟨p1, p2, p3, p4⟩; exact ⟨p3, p2, p1, p4⟩
        · rintro ⟨p3, p2, p1, p4⟩; exact ⟨p1, p2, p3, p4⟩
      unfold gvC
      by_cases w1 : mWS (mM1 U a b nb) a b k = true
      · rw [if_pos w1, if_pos ((can a b ha hb8).mpr w1)]
      · rw [if_neg w1, if_neg (fun z => w1 ((can a b ha hb8).mp z))]
        by_cases w2 : mWS (mM1 U a b nb) b a k = true
        · rw [if_pos w2, if_pos ((can b a hb8 ha).mpr w2)]
        · rw [if_neg w2, if_neg (fun z => w2 ((can b a hb8 ha).mp z))]
    have SS := sim_s hb ha hb8 hab (mWS (mM1 U a b nb) b a) (mWS (mM1 U a b nb) a b) (mR2 U a b nb).2.1 (mR2 U a b nb).2.2 k' (mR2 U a b nb).1 mo c' hmo e2 hex2 s1 s2 (nb + 1) 0 0 F' (cN2 V od a b nb (nI mo)).2 Wm' (Nat.zero_le _) (by omega) (by omega) R4 e13 e14 gv ke2 e4
    obtain ⟨c2, Wm2, g1, g2, R5⟩ := SS
    rw [nI_0] at g1 R5
    rw [← eN3] at g1 R5
    have z2 : mM3 U a b nb (nI mo) = (nI (c' + c2), Wm2) := by rw [eM3']; exact g2
    rw [z2, e1, g1]
    exact ⟨nI_add c' c2, R5.cust hb ht ha hb8 nb (Nat.le_refl _)⟩
end RelM
section Ps19
variable {l : Launch} {D : va_G} {tys : List (ClassId × FieldType)} {cI cZ cO cJ : ClassId} {mi e0 : Nat} {sa : Nat → Nat} {shm : xS} {adm : Nat → Nat}
theorem P_meet (hst : l.stackTraces = false) (M : xMm shm adm cI tys) (hT3 : tys[3]? = some (cJ, .long)) : LawP l D tys mi e0 sa shm adm (LI cI cZ cO cJ tys e0) yL_meet wsL_meet yX3_meet wsX3_meet 4 3 := by
  intro t sh ad V Vm xs hxs ht ⟨nb, nc, od, DW, h16, R⟩
  obtain ⟨x, y, z, rfl⟩ := three_arg hxs
  have hb : nb ≤ 40 := DW.dl.2.2.2.2.2.2.2.2
  obtain ⟨r1, r2, r3, r4, r5, r6, -⟩ := id R
  have fin : ∀ c, LI cI cZ cO cJ tys e0 (t + 1) sh ad V (xu Vm 17 20 c) := fun c => ⟨nb, nc, od, DW, h16, (R.thr hb c).mono⟩
  have A := R.ah (by omega)
  by_cases h : (0 ≤ x ∧ x ≤ 7) ∧ (0 ≤ y ∧ y ≤ 7)
  · by_cases h2 : x ≠ y ∧ (0 ≤ z ∧ z ≤ 20)
    · obtain ⟨a, ha, rfl⟩ := nod_nat h.1
      obtain ⟨b, hb8, rfl⟩ := nod_nat h.2
      obtain ⟨mo, hmo, rfl⟩ := mo_nat h2.2
      have hab : a ≠ b := fun e => h2.1 (by rw [e])
      have R0 := R.thr hb 0
      obtain ⟨q1, q2⟩ := R0.meet hb (by omega) ha hb8 hab hmo
      refine ⟨0, _, _, (w_meet_ok l DW h16 hT3 V r2 r3 a b nc (nI mo) ha hb8 hab h2.2 r5 r1 A.1.cp (fun k hk => ?_)).mono ?_, c_X3_meet_ok l M Vm a b nc nb (nI mo) ha hb8 hab h2.2 r4 hb r6 r1 A.1.mp (fun k hk => ?_), ?_⟩
      · obtain ⟨k1, ⟨g, hg, k2, k3⟩, -⟩ := R.rk k hk
        rw [k2, nI_clamp (by omega)]
        exact ⟨rfl, hg⟩
      · rintro v sh' ad' V' ⟨rfl, rfl, rfl, rfl⟩
        refine ⟨rfl, ⟨nb, nc, od, DW, h16, (q2.eqC (fun i _ _ h => xu_ne _ _ _ h)).mono⟩, rfl, rfl, fun _ => ?_⟩
        rw [xu_row, if_pos rfl]
        exact q1
      · obtain ⟨k1, ⟨g, hg, k2, k3⟩, -⟩ := R.rk k hk
        rw [k3, nI_clamp (by omega)]
        exact ⟨rfl, hg⟩
      · rw [mEnt_o _ _ _ _ _ (by decide) (by decide) (by decide)]
        unfold mM3
        rw [mLp_o _ _ _ _ _ _ _ _ _ _ (by unfold mKp; omega), mM2_o _ _ _ _ (by decide) (by decide) (by decide) (by decide) (by decide), xu_row, if_pos rfl]
    · refine ⟨2, -1, _, (w_meet_bad2 l hst DW h16 hT3 V r2 r3 x y z h.1 h.2 h2).mono ?_, c_X3_meet_bad2 l M Vm x y z h.1 h.2 h2, by rw [xu_row, if_pos rfl]⟩
      rintro v sh' ad' V' ⟨rfl, rfl, rfl, rfl⟩
      exact ⟨rfl, fin 2, rfl, rfl, fun z => absurd z (by decide)⟩
  · refine ⟨1, -1, _, (w_meet_bad1 l hst DW h16 hT3 V r2 r3 x y z h).mono ?_, c_X3_meet_bad1 l M Vm x y z h, by rw [xu_row, if_pos rfl]⟩
    rintro v sh' ad' V' ⟨rfl, rfl, rfl, rfl⟩
    exact ⟨rfl, fin 1, rfl, rfl, fun z => absurd z (by decide)⟩
end Ps19
