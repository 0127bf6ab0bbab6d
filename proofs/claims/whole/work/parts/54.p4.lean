theorem Rel.cnt {nb nc t : Nat} {od : Nat → Nat} {V Vm : xV} (h : Rel nb nc t od V Vm) {n : Nat} (hn : n < 8) : cntP (mHas Vm n) nb = cntP (cHas V n) nb := by
  obtain ⟨-, -, -, -, -, -, -, -, -, rk, -⟩ := h
  refine cntP_congr (fun i hi => ?_)
  unfold mHas cHas
  rw [(rk n hn i hi).1]
section Ps4
variable {l : Launch} {D : va_G} {tys : List (ClassId × FieldType)} {cI cZ cO cJ : ClassId} {mi e0 : Nat} {sa : Nat → Nat} {shm : xS} {adm : Nat → Nat}
theorem P_held (hst : l.stackTraces = false) (M : xMm shm adm cI tys) (hT3 : tys[3]? = some (cJ, .long)) : LawP l D tys mi e0 sa shm adm (LI cI cZ cO cJ tys e0) yL_held wsL_held yX3_held wsX3_held 2 1 := by
  intro t sh ad V Vm xs hxs ht ⟨nb, nc, od, DW, h16, R⟩
  obtain ⟨x, rfl⟩ := one_arg hxs
  have hb : nb ≤ 40 := DW.dl.2.2.2.2.2.2.2.2
  obtain ⟨r1, r2, r3, r4, -⟩ := id R
  by_cases h : 0 ≤ x ∧ x ≤ 7
  · obtain ⟨n, hn, rfl⟩ := nod_nat h
    refine ⟨0, _, _, (w_held_ok l DW h16 hT3 V r2 r3 n hn).mono ?_, c_X3_held_ok l M Vm n nb hn r4 hb, by rw [xu_row, if_pos rfl]⟩
    rintro v sh' ad' V' ⟨rfl, rfl, rfl, rfl⟩
    refine ⟨rfl, ⟨nb, nc, od, DW, h16, ((R.eqC (fun i _ _ h => xu_ne _ _ _ h)).thr hb 0).mono⟩, rfl, rfl, fun _ => ?_⟩
    rw [xu_row, if_pos rfl, R.cnt hn]
  · refine ⟨1, -1, _, (w_held_bad l hst DW h16 hT3 V r2 r3 x h).mono ?_, c_X3_held_bad l M Vm x h, by rw [xu_row, if_pos rfl]⟩
    rintro v sh' ad' V' ⟨rfl, rfl, rfl, rfl⟩
    exact ⟨rfl, ⟨nb, nc, od, DW, h16, (R.thr hb 1).mono⟩, rfl, rfl, fun z => absurd z (by decide)⟩
theorem Rel.buf {nb nc t : Nat} {od : Nat → Nat} {V Vm : xV} (h : Rel nb nc t od V Vm) (n : Nat) (y : Int32) : Rel nb nc t od (xu V 1 n y) (xu Vm 9 n y) := by
  obtain ⟨h1, h2, h3, h4, h5, h6, ⟨T, h7, h8, h9⟩, h10, h11, h12, h13, h14, h15, h16⟩ := h
  have ho : ∀ i, i ≠ 1 → xu V 1 n y i = V i := fun i h => xu_ne _ _ _ h
  have hm : ∀ i, i ≠ 9 → xu Vm 9 n y i = Vm i := fun i h => xu_ne _ _ _ h
  refine ⟨h1, by rw [ho 4 (by omega)]; exact h2, by rw [ho 5 (by omega)]; exact h3, by rw [hm 17 (by omega)]; exact h4, by rw [ho 6 (by omega)]; exact h5, by rw [hm 17 (by omega)]; exact h6, ⟨T, h7, by rw [ho 0 (by omega)]; exact h8, by rw [hm 17 (by omega)]; exact h9⟩, fun m hm8 => ?_, fun k hk => ?_, fun m hm8 k hk => ?_, fun j hj => ?_, fun i j hi hj => ?_, h15, fun k hk hk4 => ?_⟩
  · rw [xu_row, xu_row, hm 10 (by omega), hm 11 (by omega), ho 2 (by omega), ho 3 (by omega), (h10 m hm8).1]
    exact ⟨rfl, (h10 m hm8).2⟩
  · have z := h11 k hk
    unfold RelK at z ⊢
    rw [ho (20 + 4 * k) (by omega), hm 0 (by omega), hm 1 (by omega), hm 2 (by omega), hm 3 (by omega), hm 4 (by omega), hm 5 (by omega)]; exact z
  · have z := h12 m hm8 k hk
    unfold RelN at z ⊢
    rw [ho (20 + 4 * k + 1) (by omega), ho (20 + 4 * k + 2) (by omega), ho (20 + 4 * k + 3) (by omega), ho (20 + 4 * k) (by omega), hm 6 (by omega), hm 7 (by omega), hm 8 (by omega)]; exact z
  · have z := h13 j hj
    unfold RelP at z ⊢
    rw [ho 9 (by omega), ho 10 (by omega), ho 11 (by omega), ho 12 (by omega), hm 12 (by omega)]; exact z
  · have z := h14 i j hi hj
    unfold bBef at z ⊢
    rw [ho (20 + 4 * od i) (by omega), ho (20 + 4 * od j) (by omega)]; exact z
  · rw [hm 5 (by omega), hm 6 (by omega), hm 7 (by omega), hm 8 (by omega)]; exact h16 k hk hk4
end Ps4
