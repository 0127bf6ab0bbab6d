theorem four_arg {xs : List Int32} (h : xs.length = 4) : ∃ x y f g, xs = [x, y, f, g] := by
  match xs, h with
  | [x, y, f, g], _ => exact ⟨x, y, f, g, rfl⟩
section Ps7
variable {l : Launch} {D : va_G} {tys : List (ClassId × FieldType)} {cI cZ cO cJ : ClassId} {mi e0 : Nat} {sa : Nat → Nat} {shm : xS} {adm : Nat → Nat}
theorem P_addContact (hst : l.stackTraces = false) (M : xMm shm adm cI tys) (hT3 : tys[3]? = some (cJ, .long)) : LawP l D tys mi e0 sa shm adm (LI cI cZ cO cJ tys e0) yL_addContact wsL_addContact yX3_addContact wsX3_addContact 2 4 := by
  intro t sh ad V Vm xs hxs ht ⟨nb, nc, od, DW, h16, R⟩
  obtain ⟨x, y, f, g, rfl⟩ := four_arg hxs
  have hb : nb ≤ 40 := DW.dl.2.2.2.2.2.2.2.2
  obtain ⟨r1, r2, r3, r4, r5, r6, -⟩ := id R
  have fin : ∀ c, LI cI cZ cO cJ tys e0 (t + 1) sh ad V (xu Vm 17 20 c) := fun c => ⟨nb, nc, od, DW, h16, (R.thr hb c).mono⟩
  by_cases h : (0 ≤ x ∧ x ≤ 7) ∧ (0 ≤ y ∧ y ≤ 7)
  · by_cases h2 : x ≠ y ∧ (0 ≤ f ∧ f ≤ 100000) ∧ (f ≤ g ∧ g ≤ 100000)
    · by_cases h3 : nc < 30
      · refine ⟨0, nI (nc + 1), _, (w_addContact_ok l DW h16 hT3 V r2 r3 x y f g nc h.1 h.2 h2 r5 h3).mono ?_, c_X3_addContact_ok l M Vm x y f g nc h.1 h.2 h2 r6 h3, by rw [xu_row, if_neg (by decide), xu_ne _ _ _ (by decide), xu_ne _ _ _ (by decide), xu_ne _ _ _ (by decide), xu_ne _ _ _ (by decide), xu_row, if_pos rfl]⟩
        rintro v sh' ad' V' ⟨rfl, rfl, rfl, rfl⟩
        refine ⟨rfl, ⟨nb, nc + 1, od, DW, h16, (((R.thr hb 0).addc h3 h.1 h.2 h2.2.1.1 h2.2.2.1 h2.2.2.2).eqC (fun i _ _ h => xu_ne _ _ _ h)).mono⟩, rfl, rfl, fun _ => ?_⟩
        rw [xu_row, if_pos rfl]
      · have e : nc = 30 := by omega
        refine ⟨3, -1, _, (w_addContact_bad3 l hst DW h16 hT3 V r2 r3 x y f g h.1 h.2 h2 (by rw [r5, e]; decide)).mono ?_, c_X3_addContact_bad3 l M Vm x y f g h.1 h.2 h2 (by rw [r6, e]; rfl), by rw [xu_row, if_pos rfl]⟩
        rintro v sh' ad' V' ⟨rfl, rfl, rfl, rfl⟩
        exact ⟨rfl, fin 3, rfl, rfl, fun z => absurd z (by decide)⟩
    · refine ⟨2, -1, _, (w_addContact_bad2 l hst DW h16 hT3 V r2 r3 x y f g h.1 h.2 h2).mono ?_, c_X3_addContact_bad2 l M Vm x y f g h.1 h.2 h2, by rw [xu_row, if_pos rfl]⟩
      rintro v sh' ad' V' ⟨rfl, rfl, rfl, rfl⟩
      exact ⟨rfl, fin 2, rfl, rfl, fun z => absurd z (by decide)⟩
  · refine ⟨1, -1, _, (w_addContact_bad1 l hst DW h16 hT3 V r2 r3 x y f g h).mono ?_, c_X3_addContact_bad1 l M Vm x y f g h, by rw [xu_row, if_pos rfl]⟩
    rintro v sh' ad' V' ⟨rfl, rfl, rfl, rfl⟩
    exact ⟨rfl, fin 1, rfl, rfl, fun z => absurd z (by decide)⟩
end Ps7
