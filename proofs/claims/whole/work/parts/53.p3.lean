theorem nod_nat {x : Int32} (h : 0 ≤ x ∧ x ≤ 7) : ∃ n, n < 8 ∧ x = nI n := by
  obtain ⟨k, hk, rfl⟩ := nat_of h.1
  have z := (nI_leI (a := k) (b := 7) hk (by omega)).mp h.2
  exact ⟨k, by omega, rfl⟩
theorem two_arg {xs : List Int32} (h : xs.length = 2) : ∃ x y, xs = [x, y] := by
  match xs, h with
  | [x, y], _ => exact ⟨x, y, rfl⟩
section Ps3
variable {l : Launch} {D : va_G} {tys : List (ClassId × FieldType)} {cI cZ cO cJ : ClassId} {mi e0 : Nat} {sa : Nat → Nat} {shm : xS} {adm : Nat → Nat}
theorem P_dropped (hst : l.stackTraces = false) (M : xMm shm adm cI tys) (hT3 : tys[3]? = some (cJ, .long)) : LawP l D tys mi e0 sa shm adm (LI cI cZ cO cJ tys e0) yL_dropped wsL_dropped yX3_dropped wsX3_dropped 2 1 := by
  intro t sh ad V Vm xs hxs ht ⟨nb, nc, od, DW, h16, R⟩
  obtain ⟨x, rfl⟩ := one_arg hxs
  have hb : nb ≤ 40 := DW.dl.2.2.2.2.2.2.2.2
  obtain ⟨r1, r2, r3, r4, -, -, -, rn, -⟩ := id R
  by_cases h : 0 ≤ x ∧ x ≤ 7
  · obtain ⟨n, hn, rfl⟩ := nod_nat h
    refine ⟨0, Vm 10 n, _, (w_dropped_ok l DW h16 hT3 V r2 r3 n hn).mono ?_, c_X3_dropped_ok l M Vm n hn, by rw [xu_row, if_pos rfl]⟩
    rintro v sh' ad' V' ⟨rfl, rfl, rfl, rfl⟩
    refine ⟨rfl, ⟨nb, nc, od, DW, h16, ((R.eqC (fun i _ _ h => xu_ne _ _ _ h)).thr hb 0).mono⟩, rfl, rfl, fun _ => ?_⟩
    rw [xu_row, if_pos rfl]
    exact (rn n hn).2.1.symm
  · refine ⟨1, -1, _, (w_dropped_bad l hst DW h16 hT3 V r2 r3 x h).mono ?_, c_X3_dropped_bad l M Vm x h, by rw [xu_row, if_pos rfl]⟩
    rintro v sh' ad' V' ⟨rfl, rfl, rfl, rfl⟩
    exact ⟨rfl, ⟨nb, nc, od, DW, h16, (R.thr hb 1).mono⟩, rfl, rfl, fun z => absurd z (by decide)⟩
theorem P_refused (hst : l.stackTraces = false) (M : xMm shm adm cI tys) (hT3 : tys[3]? = some (cJ, .long)) : LawP l D tys mi e0 sa shm adm (LI cI cZ cO cJ tys e0) yL_refused wsL_refused yX3_refused wsX3_refused 2 1 := by
  intro t sh ad V Vm xs hxs ht ⟨nb, nc, od, DW, h16, R⟩
  obtain ⟨x, rfl⟩ := one_arg hxs
  have hb : nb ≤ 40 := DW.dl.2.2.2.2.2.2.2.2
  obtain ⟨r1, r2, r3, r4, -, -, -, rn, -⟩ := id R
  by_cases h : 0 ≤ x ∧ x ≤ 7
  · obtain ⟨n, hn, rfl⟩ := nod_nat h
    refine ⟨0, Vm 11 n, _, (w_refused_ok l DW h16 hT3 V r2 r3 n hn).mono ?_, c_X3_refused_ok l M Vm n hn, by rw [xu_row, if_pos rfl]⟩
    rintro v sh' ad' V' ⟨rfl, rfl, rfl, rfl⟩
    refine ⟨rfl, ⟨nb, nc, od, DW, h16, ((R.eqC (fun i _ _ h => xu_ne _ _ _ h)).thr hb 0).mono⟩, rfl, rfl, fun _ => ?_⟩
    rw [xu_row, if_pos rfl]
    exact (rn n hn).2.2.symm
  · refine ⟨1, -1, _, (w_refused_bad l hst DW h16 hT3 V r2 r3 x h).mono ?_, c_X3_refused_bad l M Vm x h, by rw [xu_row, if_pos rfl]⟩
    rintro v sh' ad' V' ⟨rfl, rfl, rfl, rfl⟩
    exact ⟨rfl, ⟨nb, nc, od, DW, h16, (R.thr hb 1).mono⟩, rfl, rfl, fun z => absurd z (by decide)⟩
theorem P_copies (hst : l.stackTraces = false) (M : xMm shm adm cI tys) (hT3 : tys[3]? = some (cJ, .long)) : LawP l D tys mi e0 sa shm adm (LI cI cZ cO cJ tys e0) yL_copies wsL_copies yX3_copies wsX3_copies 2 2 := by
  intro t sh ad V Vm xs hxs ht ⟨nb, nc, od, DW, h16, R⟩
  obtain ⟨x, y, rfl⟩ := two_arg hxs
  have hb : nb ≤ 40 := DW.dl.2.2.2.2.2.2.2.2
  obtain ⟨r1, r2, r3, r4, -, -, -, -, -, rk, -⟩ := id R
  have fin : LI cI cZ cO cJ tys e0 (t + 1) sh ad V (xu Vm 17 20 1) := ⟨nb, nc, od, DW, h16, (R.thr hb 1).mono⟩
  by_cases h : 0 ≤ x ∧ x ≤ 7
  · obtain ⟨n, hn, rfl⟩ := nod_nat h
    by_cases h2 : 0 ≤ y ∧ y < nI nb
    · obtain ⟨k, hk, rfl⟩ := bun_nat hb h2
      refine ⟨0, Vm 6 (40 * n + k), _, (w_copies_ok l DW h16 hT3 V r2 r3 n k hn hk).mono ?_, c_X3_copies_ok l M Vm n k hn (by omega) (by rw [r4]; exact (bun_iff hb).mpr h2), by rw [xu_row, if_pos rfl]⟩
      rintro v sh' ad' V' ⟨rfl, rfl, rfl, rfl⟩
      refine ⟨rfl, ⟨nb, nc, od, DW, h16, ((R.eqC (fun i _ _ h => xu_ne _ _ _ h)).thr hb 0).mono⟩, rfl, rfl, fun _ => ?_⟩
      rw [xu_row, if_pos rfl]
      exact (rk n hn k hk).1.symm
    · refine ⟨1, -1, _, (w_copies_bad2 l hst DW h16 hT3 V r2 r3 n hn y h2).mono ?_, c_X3_copies_bad l M Vm (nI n) y (by rw [r4]; exact fun z => h2 ((bun_iff hb).mp z.2)), by rw [xu_row, if_pos rfl]⟩
      rintro v sh' ad' V' ⟨rfl, rfl, rfl, rfl⟩
      exact ⟨rfl, fin, rfl, rfl, fun z => absurd z (by decide)⟩
  · refine ⟨1, -1, _, (w_copies_bad1 l hst DW h16 hT3 V r2 r3 x y h).mono ?_, c_X3_copies_bad l M Vm x y (fun z => h z.1), by rw [xu_row, if_pos rfl]⟩
    rintro v sh' ad' V' ⟨rfl, rfl, rfl, rfl⟩
    exact ⟨rfl, fin, rfl, rfl, fun z => absurd z (by decide)⟩
theorem P_knows (hst : l.stackTraces = false) (M : xMm shm adm cI tys) (hT3 : tys[3]? = some (cJ, .long)) : LawB l D tys mi e0 sa shm adm (LI cI cZ cO cJ tys e0) yL_knows wsL_knows yX3_knows wsX3_knows 2 2 := by
  intro t sh ad V Vm xs hxs ht ⟨nb, nc, od, DW, h16, R⟩
  obtain ⟨x, y, rfl⟩ := two_arg hxs
  have hb : nb ≤ 40 := DW.dl.2.2.2.2.2.2.2.2
  obtain ⟨r1, r2, r3, r4, -, -, -, -, -, rk, -⟩ := id R
  have fin : LI cI cZ cO cJ tys e0 (t + 1) sh ad V (xu Vm 17 20 1) := ⟨nb, nc, od, DW, h16, (R.thr hb 1).mono⟩
  by_cases h : 0 ≤ x ∧ x ≤ 7
  · obtain ⟨n, hn, rfl⟩ := nod_nat h
    by_cases h2 : 0 ≤ y ∧ y < nI nb
    · obtain ⟨k, hk, rfl⟩ := bun_nat hb h2
      obtain ⟨k1, k2, k3, k4, k5⟩ := rk n hn k hk
      refine ⟨0, b2i (Vm 8 (40 * n + k) = 1), _, (w_knows_ok l DW h16 hT3 V r2 r3 n k hn hk k4).mono ?_, c_X3_knows_ok l M Vm n k hn (by omega) (by rw [r4]; exact (bun_iff hb).mpr h2), by rw [xu_row, if_pos rfl], b2i_01 _⟩
      rintro v sh' ad' V' ⟨rfl, rfl, rfl, rfl⟩
      refine ⟨rfl, ⟨nb, nc, od, DW, h16, ((R.eqC (fun i _ _ h => xu_ne _ _ _ h)).thr hb 0).mono⟩, rfl, rfl, fun _ => ?_⟩
      rw [xu_row, if_pos rfl, k3]
      rcases k4 with z | z
      · rw [z]; exact (b2i_f (by decide)).symm
      · rw [z]; exact (b2i_t rfl).symm
    · refine ⟨1, 0, _, (w_knows_bad2 l hst DW h16 hT3 V r2 r3 n hn y h2).mono ?_, c_X3_knows_bad l M Vm (nI n) y (by rw [r4]; exact fun z => h2 ((bun_iff hb).mp z.2)), by rw [xu_row, if_pos rfl], Or.inl rfl⟩
      rintro v sh' ad' V' ⟨rfl, rfl, rfl, rfl⟩
      exact ⟨rfl, fin, rfl, rfl, fun z => absurd z (by decide)⟩
  · refine ⟨1, 0, _, (w_knows_bad1 l hst DW h16 hT3 V r2 r3 x y h).mono ?_, c_X3_knows_bad l M Vm x y (fun z => h z.1), by rw [xu_row, if_pos rfl], Or.inl rfl⟩
    rintro v sh' ad' V' ⟨rfl, rfl, rfl, rfl⟩
    exact ⟨rfl, fin, rfl, rfl, fun z => absurd z (by decide)⟩
end Ps3
