theorem nat_of {x : Int32} (h : 0 ≤ x) : ∃ k : Nat, k < 2 ^ 31 ∧ x = nI k := by
  have h0 : 0 ≤ x.toInt := by simpa using (i_le 0 x).mp h
  have h1 : x.toInt < 2 ^ 31 := Int32.toInt_lt x
  refine ⟨x.toInt.toNat, by omega, ?_⟩
  rw [i_eq, nI_toInt (by omega)]
  omega
theorem bun_iff {x : Int32} {nb : Nat} (hb : nb ≤ 40) : (0 ≤ x ∧ x ≤ nI nb - 1) ↔ (0 ≤ x ∧ x < nI nb) := by
  constructor
  · rintro ⟨h1, h2⟩
    refine ⟨h1, ?_⟩
    obtain ⟨k, hk, rfl⟩ := nat_of h1
    cases nb with
    | zero => exact absurd h2 (by rw [i_le, nI_toInt hk]; show ¬ ((k : Int) ≤ -1); omega)
    | succ m => rw [show nI (m + 1) - 1 = nI m from nI_pred m, nI_leI hk (by omega)] at h2; rw [nI_ltI hk (by omega)]; omega
  · rintro ⟨h1, h2⟩
    refine ⟨h1, ?_⟩
    obtain ⟨k, hk, rfl⟩ := nat_of h1
    rw [nI_ltI hk (by omega)] at h2
    cases nb with
    | zero => exact absurd h2 (Nat.not_lt_zero k)
    | succ m => rw [show nI (m + 1) - 1 = nI m from nI_pred m, nI_leI hk (by omega)]; omega
theorem bun_nat {x : Int32} {nb : Nat} (hb : nb ≤ 40) (h : 0 ≤ x ∧ x < nI nb) : ∃ k, k < nb ∧ x = nI k := by
  obtain ⟨k, hk, rfl⟩ := nat_of h.1
  exact ⟨k, (nI_ltI hk (by omega)).mp h.2, rfl⟩
theorem one_arg {xs : List Int32} (h : xs.length = 1) : ∃ x, xs = [x] := by
  match xs, h with
  | [x], _ => exact ⟨x, rfl⟩
section Ps2
variable {l : Launch} {D : va_G} {tys : List (ClassId × FieldType)} {cI cZ cO cJ : ClassId} {mi e0 : Nat} {sa : Nat → Nat} {shm : xS} {adm : Nat → Nat}
theorem P_endOf (hst : l.stackTraces = false) (M : xMm shm adm cI tys) (hT3 : tys[3]? = some (cJ, .long)) : LawP l D tys mi e0 sa shm adm (LI cI cZ cO cJ tys e0) yL_endOf wsL_endOf yX3_endOf wsX3_endOf 2 1 := by
  intro t sh ad V Vm xs hxs ht ⟨nb, nc, od, DW, h16, R⟩
  obtain ⟨x, rfl⟩ := one_arg hxs
  have hb : nb ≤ 40 := DW.dl.2.2.2.2.2.2.2.2
  obtain ⟨r1, r2, r3, r4, -, -, -, -, rk, -⟩ := id R
  by_cases h : 0 ≤ x ∧ x < nI nb
  · obtain ⟨k, hk, rfl⟩ := bun_nat hb h
    refine ⟨0, Vm 2 k, _, (w_endOf_ok l DW h16 hT3 V r2 r3 k hk).mono ?_, c_X3_endOf_ok l M Vm k (by omega) (by rw [r4]; exact (bun_iff hb).mpr h), by rw [xu_row, if_pos rfl]⟩
    rintro v sh' ad' V' ⟨rfl, rfl, rfl, rfl⟩
    refine ⟨rfl, ⟨nb, nc, od, DW, h16, ((R.eqC (fun i _ _ h => xu_ne _ _ _ h)).thr hb 0).mono⟩, rfl, rfl, fun _ => ?_⟩
    rw [xu_row, if_pos rfl]
    obtain ⟨k1, k2, k3, k4, k5, k6, k7, k8⟩ := rk k hk
    exact k4.symm
  · refine ⟨1, -1, _, (w_endOf_bad l hst DW h16 hT3 V r2 r3 x h).mono ?_, c_X3_endOf_bad l M Vm x (by rw [r4]; exact fun z => h ((bun_iff hb).mp z)), by rw [xu_row, if_pos rfl]⟩
    rintro v sh' ad' V' ⟨rfl, rfl, rfl, rfl⟩
    exact ⟨rfl, ⟨nb, nc, od, DW, h16, (R.thr hb 1).mono⟩, rfl, rfl, fun z => absurd z (by decide)⟩
theorem P_deliveredAt (hst : l.stackTraces = false) (M : xMm shm adm cI tys) (hT3 : tys[3]? = some (cJ, .long)) : LawP l D tys mi e0 sa shm adm (LI cI cZ cO cJ tys e0) yL_deliveredAt wsL_deliveredAt yX3_deliveredAt wsX3_deliveredAt 2 1 := by
  intro t sh ad V Vm xs hxs ht ⟨nb, nc, od, DW, h16, R⟩
  obtain ⟨x, rfl⟩ := one_arg hxs
  have hb : nb ≤ 40 := DW.dl.2.2.2.2.2.2.2.2
  obtain ⟨r1, r2, r3, r4, -, -, -, -, rk, -⟩ := id R
  by_cases h : 0 ≤ x ∧ x < nI nb
  · obtain ⟨k, hk, rfl⟩ := bun_nat hb h
    refine ⟨0, Vm 4 k, _, (w_deliveredAt_ok l DW h16 hT3 V r2 r3 k hk).mono ?_, c_X3_deliveredAt_ok l M Vm k (by omega) (by rw [r4]; exact (bun_iff hb).mpr h), by rw [xu_row, if_pos rfl]⟩
    rintro v sh' ad' V' ⟨rfl, rfl, rfl, rfl⟩
    refine ⟨rfl, ⟨nb, nc, od, DW, h16, ((R.eqC (fun i _ _ h => xu_ne _ _ _ h)).thr hb 0).mono⟩, rfl, rfl, fun _ => ?_⟩
    rw [xu_row, if_pos rfl]
    obtain ⟨k1, k2, k3, k4, k5, k6, k7, k8⟩ := rk k hk
    exact k6.symm
  · refine ⟨1, -1, _, (w_deliveredAt_bad l hst DW h16 hT3 V r2 r3 x h).mono ?_, c_X3_deliveredAt_bad l M Vm x (by rw [r4]; exact fun z => h ((bun_iff hb).mp z)), by rw [xu_row, if_pos rfl]⟩
    rintro v sh' ad' V' ⟨rfl, rfl, rfl, rfl⟩
    exact ⟨rfl, ⟨nb, nc, od, DW, h16, (R.thr hb 1).mono⟩, rfl, rfl, fun z => absurd z (by decide)⟩
theorem P_hops (hst : l.stackTraces = false) (M : xMm shm adm cI tys) (hT3 : tys[3]? = some (cJ, .long)) : LawP l D tys mi e0 sa shm adm (LI cI cZ cO cJ tys e0) yL_hops wsL_hops yX3_hops wsX3_hops 2 1 := by
  intro t sh ad V Vm xs hxs ht ⟨nb, nc, od, DW, h16, R⟩
  obtain ⟨x, rfl⟩ := one_arg hxs
  have hb : nb ≤ 40 := DW.dl.2.2.2.2.2.2.2.2
  obtain ⟨r1, r2, r3, r4, -, -, -, -, rk, -⟩ := id R
  by_cases h : 0 ≤ x ∧ x < nI nb
  · obtain ⟨k, hk, rfl⟩ := bun_nat hb h
    refine ⟨0, Vm 5 k, _, (w_hops_ok l DW h16 hT3 V r2 r3 k hk).mono ?_, c_X3_hops_ok l M Vm k (by omega) (by rw [r4]; exact (bun_iff hb).mpr h), by rw [xu_row, if_pos rfl]⟩
    rintro v sh' ad' V' ⟨rfl, rfl, rfl, rfl⟩
    refine ⟨rfl, ⟨nb, nc, od, DW, h16, ((R.eqC (fun i _ _ h => xu_ne _ _ _ h)).thr hb 0).mono⟩, rfl, rfl, fun _ => ?_⟩
    rw [xu_row, if_pos rfl]
    obtain ⟨k1, k2, k3, k4, k5, k6, k7, k8⟩ := rk k hk
    exact k7.symm
  · refine ⟨1, -1, _, (w_hops_bad l hst DW h16 hT3 V r2 r3 x h).mono ?_, c_X3_hops_bad l M Vm x (by rw [r4]; exact fun z => h ((bun_iff hb).mp z)), by rw [xu_row, if_pos rfl]⟩
    rintro v sh' ad' V' ⟨rfl, rfl, rfl, rfl⟩
    exact ⟨rfl, ⟨nb, nc, od, DW, h16, (R.thr hb 1).mono⟩, rfl, rfl, fun z => absurd z (by decide)⟩
theorem P_custodian (hst : l.stackTraces = false) (M : xMm shm adm cI tys) (hT3 : tys[3]? = some (cJ, .long)) : LawP l D tys mi e0 sa shm adm (LI cI cZ cO cJ tys e0) yL_custodian wsL_custodian yX3_custodian wsX3_custodian 2 1 := by
  intro t sh ad V Vm xs hxs ht ⟨nb, nc, od, DW, h16, R⟩
  obtain ⟨x, rfl⟩ := one_arg hxs
  have hb : nb ≤ 40 := DW.dl.2.2.2.2.2.2.2.2
  obtain ⟨r1, r2, r3, r4, -, -, -, -, rk, -⟩ := id R
  by_cases h : 0 ≤ x ∧ x < nI nb
  · obtain ⟨k, hk, rfl⟩ := bun_nat hb h
    refine ⟨0, Vm 3 k, _, (w_custodian_ok l DW h16 hT3 V r2 r3 k hk).mono ?_, c_X3_custodian_ok l M Vm k (by omega) (by rw [r4]; exact (bun_iff hb).mpr h), by rw [xu_row, if_pos rfl]⟩
    rintro v sh' ad' V' ⟨rfl, rfl, rfl, rfl⟩
    refine ⟨rfl, ⟨nb, nc, od, DW, h16, ((R.eqC (fun i _ _ h => xu_ne _ _ _ h)).thr hb 0).mono⟩, rfl, rfl, fun _ => ?_⟩
    rw [xu_row, if_pos rfl]
    obtain ⟨k1, k2, k3, k4, k5, k6, k7, k8⟩ := rk k hk
    exact k5.symm
  · refine ⟨1, -1, _, (w_custodian_bad l hst DW h16 hT3 V r2 r3 x h).mono ?_, c_X3_custodian_bad l M Vm x (by rw [r4]; exact fun z => h ((bun_iff hb).mp z)), by rw [xu_row, if_pos rfl]⟩
    rintro v sh' ad' V' ⟨rfl, rfl, rfl, rfl⟩
    exact ⟨rfl, ⟨nb, nc, od, DW, h16, (R.thr hb 1).mono⟩, rfl, rfl, fun z => absurd z (by decide)⟩
end Ps2
