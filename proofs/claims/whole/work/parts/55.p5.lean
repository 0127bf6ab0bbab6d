section Ps5
variable {l : Launch} {D : va_G} {tys : List (ClassId × FieldType)} {cI cZ cO cJ : ClassId} {mi e0 : Nat} {sa : Nat → Nat} {shm : xS} {adm : Nat → Nat}
theorem P_setBuffer (hst : l.stackTraces = false) (M : xMm shm adm cI tys) (hT3 : tys[3]? = some (cJ, .long)) : LawP l D tys mi e0 sa shm adm (LI cI cZ cO cJ tys e0) yL_setBuffer wsL_setBuffer yX3_setBuffer wsX3_setBuffer 2 2 := by
  intro t sh ad V Vm xs hxs ht ⟨nb, nc, od, DW, h16, R⟩
  obtain ⟨x, y, rfl⟩ := two_arg hxs
  have hb : nb ≤ 40 := DW.dl.2.2.2.2.2.2.2.2
  obtain ⟨r1, r2, r3, r4, -, -, -, rn, -⟩ := id R
  have fin : ∀ c, LI cI cZ cO cJ tys e0 (t + 1) sh ad V (xu Vm 17 20 c) := fun c => ⟨nb, nc, od, DW, h16, (R.thr hb c).mono⟩
  by_cases h : 0 ≤ x ∧ x ≤ 7
  · obtain ⟨n, hn, rfl⟩ := nod_nat h
    by_cases h1 : 1 ≤ y ∧ y ≤ 8
    · by_cases h2 : nI (cntP (cHas V n) nb) ≤ y
      · refine ⟨0, Vm 9 n, _, (w_setBuffer_ok l DW h16 hT3 V r2 r3 n y hn h1 h2).mono ?_, c_X3_setBuffer_ok l M Vm n nb y hn h1 (by rw [R.cnt hn]; exact h2) r4 hb, by rw [xu_ne _ _ _ (by decide), xu_row, if_pos rfl]⟩
        rintro v sh' ad' V' ⟨rfl, rfl, rfl, rfl⟩
        refine ⟨rfl, ⟨nb, nc, od, DW, h16, (((R.thr hb 0).buf n y).eqC (fun i _ _ h => xu_ne _ _ _ h)).mono⟩, rfl, rfl, fun _ => ?_⟩
        rw [xu_row, if_pos rfl]
        exact (rn n hn).1.symm
      · refine ⟨3, -1, _, (w_setBuffer_bad3 l hst DW h16 hT3 V r2 r3 n y hn h1 h2).mono ?_, c_X3_setBuffer_bad3 l M Vm n nb y hn h1 (by rw [R.cnt hn]; exact h2) r4 hb, by rw [xu_row, if_pos rfl]⟩
        rintro v sh' ad' V' ⟨rfl, rfl, rfl, rfl⟩
        exact ⟨rfl, fin 3, rfl, rfl, fun z => absurd z (by decide)⟩
    · refine ⟨2, -1, _, (w_setBuffer_bad2 l hst DW h16 hT3 V r2 r3 n y hn h1).mono ?_, c_X3_setBuffer_bad2 l M Vm n y hn h1, by rw [xu_row, if_pos rfl]⟩
      rintro v sh' ad' V' ⟨rfl, rfl, rfl, rfl⟩
      exact ⟨rfl, fin 2, rfl, rfl, fun z => absurd z (by decide)⟩
  · refine ⟨1, -1, _, (w_setBuffer_bad1 l hst DW h16 hT3 V r2 r3 x y h).mono ?_, c_X3_setBuffer_bad1 l M Vm x y h, by rw [xu_row, if_pos rfl]⟩
    rintro v sh' ad' V' ⟨rfl, rfl, rfl, rfl⟩
    exact ⟨rfl, fin 1, rfl, rfl, fun z => absurd z (by decide)⟩
end Ps5
