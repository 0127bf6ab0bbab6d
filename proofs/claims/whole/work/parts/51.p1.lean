theorem Rel.eqM {nb nc t : Nat} {od : Nat → Nat} {V Vm Vm' : xV} (h : Rel nb nc t od V Vm) (hb : nb ≤ 40) (h17 : ∀ k, k < 20 → Vm' 17 k = Vm 17 k) (ho : ∀ i, i < 13 → Vm' i = Vm i) : Rel nb nc t od V Vm' := by
  obtain ⟨h1, h2, h3, h4, h5, h6, ⟨T, h7, h8, h9⟩, h10, h11, h12, h13, h14, h15, h16⟩ := h
  refine ⟨h1, h2, h3, (h17 17 (by omega)).trans h4, h5, (h17 18 (by omega)).trans h6, ⟨T, h7, h8, (h17 19 (by omega)).trans h9⟩, fun n hn => ?_, fun k hk => ?_, fun n hn k hk => ?_, fun j hj => ?_, h14, h15, fun k hk hk4 => ?_⟩
  · rw [ho 9 (by omega), ho 10 (by omega), ho 11 (by omega)]; exact h10 n hn
  · have z := h11 k hk
    unfold RelK at z ⊢
    rw [ho 0 (by omega), ho 1 (by omega), ho 2 (by omega), ho 3 (by omega), ho 4 (by omega), ho 5 (by omega)]; exact z
  · have z := h12 n hn k hk
    unfold RelN at z ⊢
    rw [ho 6 (by omega), ho 7 (by omega), ho 8 (by omega)]; exact z
  · have z := h13 j hj
    unfold RelP at z ⊢
    rw [ho 12 (by omega)]; exact z
  · rw [ho 5 (by omega), ho 6 (by omega), ho 7 (by omega), ho 8 (by omega)]; exact h16 k hk hk4
theorem Rel.eqC {nb nc t : Nat} {od : Nat → Nat} {V V' Vm : xV} (h : Rel nb nc t od V Vm) (ho : ∀ i, i ≠ 13 → i ≠ 14 → i ≠ 16 → V' i = V i) : Rel nb nc t od V' Vm := by
  obtain ⟨h1, h2, h3, h4, h5, h6, ⟨T, h7, h8, h9⟩, h10, h11, h12, h13, h14, h15⟩ := h
  have hb : ∀ k, V' (20 + 4 * k) = V (20 + 4 * k) := fun k => ho _ (by omega) (by omega) (by omega)
  refine ⟨h1, by rw [ho 4 (by omega) (by omega) (by omega)]; exact h2, by rw [ho 5 (by omega) (by omega) (by omega)]; exact h3, h4, by rw [ho 6 (by omega) (by omega) (by omega)]; exact h5, h6, ⟨T, h7, by rw [ho 0 (by omega) (by omega) (by omega)]; exact h8, h9⟩, fun n hn => ?_, fun k hk => ?_, fun n hn k hk => ?_, fun j hj => ?_, fun i j hi hj => ?_, h15⟩
  · rw [ho 1 (by omega) (by omega) (by omega), ho 2 (by omega) (by omega) (by omega), ho 3 (by omega) (by omega) (by omega)]; exact h10 n hn
  · have z := h11 k hk
    unfold RelK at z ⊢
    rw [hb]; exact z
  · have z := h12 n hn k hk
    unfold RelN at z ⊢
    rw [ho (20 + 4 * k + 1) (by omega) (by omega) (by omega), ho (20 + 4 * k + 2) (by omega) (by omega) (by omega), ho (20 + 4 * k + 3) (by omega) (by omega) (by omega), hb]; exact z
  · have z := h13 j hj
    unfold RelP at z ⊢
    rw [ho 9 (by omega) (by omega) (by omega), ho 10 (by omega) (by omega) (by omega), ho 11 (by omega) (by omega) (by omega), ho 12 (by omega) (by omega) (by omega)]; exact z
  · have z := h14 i j hi hj
    unfold bBef at z ⊢
    rw [hb, hb]; exact z
theorem Rel.thr {nb nc t : Nat} {od : Nat → Nat} {V Vm : xV} (h : Rel nb nc t od V Vm) (hb : nb ≤ 40) (x : Int32) : Rel nb nc t od V (xu Vm 17 20 x) :=
  h.eqM hb (fun k hk => by rw [xu_row, if_neg (by omega)]) (fun i hi => xu_ne _ _ _ (by omega))
section Ps
variable {l : Launch} {D : va_G} {tys : List (ClassId × FieldType)} {cI cZ cO cJ : ClassId} {mi e0 : Nat} {sa : Nat → Nat} {shm : xS} {adm : Nat → Nat}
theorem P_clock (M : xMm shm adm cI tys) : LawQ l D tys shm adm (LI cI cZ cO cJ tys e0) yX2_clock wsX2_clock 4 yX3_clock wsX3_clock 1 := by
  intro t sh ad V Vm ht ⟨nb, nc, od, DW, h16, R⟩
  have hb : nb ≤ 40 := DW.dl.2.2.2.2.2.2.2.2
  obtain ⟨r1, r2, r3, r4, r5, r6, ⟨T, r7, r8, r9⟩, -⟩ := id R
  have z := c_X3_clock (D := D) l M Vm
  rw [r9, ← r8] at z
  exact ⟨V 0 0, _, c_X2_clock l DW.dl V r2 r3, z, nb, nc, od, DW, h16, (R.thr hb 0).mono⟩
theorem P_bundles (M : xMm shm adm cI tys) : LawQ l D tys shm adm (LI cI cZ cO cJ tys e0) yX2_bundles wsX2_bundles 4 yX3_bundles wsX3_bundles 1 := by
  intro t sh ad V Vm ht ⟨nb, nc, od, DW, h16, R⟩
  have hb : nb ≤ 40 := DW.dl.2.2.2.2.2.2.2.2
  obtain ⟨r1, r2, r3, r4, -⟩ := id R
  have z := c_X3_bundles (D := D) l M Vm
  rw [r4, ← r2] at z
  exact ⟨V 4 2, _, c_X2_bundles l DW.dl V r2 r3, z, nb, nc, od, DW, h16, (R.thr hb 0).mono⟩
end Ps
