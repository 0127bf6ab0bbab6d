/-! THE RELATION between the class's world V and the reference's Vm: nb bundles in the order od, nc contacts, t rounds done -/
/-- of one bundle -/
def RelK (V Vm : xV) (k : Nat) : Prop :=
  V (20 + 4 * k) 0 = nI k ∧ (∃ g, g < 8 ∧ V (20 + 4 * k) 1 = nI g ∧ Vm 0 k = nI g) ∧ Vm 1 k = V (20 + 4 * k) 2 ∧ Vm 2 k = V (20 + 4 * k) 3 ∧ Vm 3 k = V (20 + 4 * k) 7 ∧ Vm 4 k = V (20 + 4 * k) 8 ∧ Vm 5 k = V (20 + 4 * k) 9 ∧ (V (20 + 4 * k) 8 = -1 ∨ 0 ≤ V (20 + 4 * k) 8)
/-- of one bundle at one node -/
def RelN (V Vm : xV) (n k : Nat) : Prop :=
  Vm 6 (40 * n + k) = V (20 + 4 * k + 1) n ∧ (∃ c, c ≤ 64 ∧ V (20 + 4 * k + 1) n = nI c) ∧ Vm 8 (40 * n + k) = V (20 + 4 * k + 3) n ∧ (V (20 + 4 * k + 3) n = 0 ∨ V (20 + 4 * k + 3) n = 1) ∧ (0 < V (20 + 4 * k + 1) n → Vm 7 (40 * n + k) = V (20 + 4 * k + 2) n) ∧ (V (20 + 4 * k + 3) n = 1 → V (20 + 4 * k + 1) n = 0 ∧ V (20 + 4 * k) 7 ≠ nI n)
def RelP (V Vm : xV) (j : Nat) : Prop :=
  (∃ x, x < 8 ∧ V 9 j = nI x ∧ Vm 12 (4 * j) = nI x) ∧ (∃ y, y < 8 ∧ V 10 j = nI y ∧ Vm 12 (4 * j + 1) = nI y) ∧ Vm 12 (4 * j + 2) = V 11 j ∧ Vm 12 (4 * j + 3) = V 12 j ∧ (0 ≤ V 11 j ∧ V 11 j ≤ V 12 j ∧ V 12 j ≤ 100000)
/-- what is not yet sent has left nothing -/
def RelF (nb : Nat) (Vm : xV) : Prop := ∀ k, nb ≤ k → k < 40 → Vm 5 k = 0 ∧ ∀ n, n < 8 → Vm 6 (40 * n + k) = 0 ∧ Vm 7 (40 * n + k) = 0 ∧ Vm 8 (40 * n + k) = 0
def Rel (nb nc t : Nat) (od : Nat → Nat) (V Vm : xV) : Prop :=
  nc ≤ 30 ∧ V 4 2 = nI nb ∧ V 5 2 = nI nb ∧ Vm 17 17 = nI nb ∧ V 6 6 = nI nc ∧ Vm 17 18 = nI nc ∧ (∃ T, T ≤ 10000 * t ∧ V 0 0 = nI T ∧ Vm 17 19 = nI T) ∧
  (∀ n, n < 8 → Vm 9 n = V 1 n ∧ Vm 10 n = V 2 n ∧ Vm 11 n = V 3 n) ∧ (∀ k, k < nb → RelK V Vm k) ∧ (∀ n, n < 8 → ∀ k, k < nb → RelN V Vm n k) ∧ (∀ j, j < nc → RelP V Vm j) ∧
  (∀ i j, i < j → j < nb → bBef V (20 + 4 * od i) (20 + 4 * od j) = true) ∧ ((List.range nb).map od).Perm (List.range nb) ∧ RelF nb Vm
/-- what holds at the loop's head -/
def LI (cI cZ cO cJ : ClassId) (tys : List (ClassId × FieldType)) (e0 : Nat) (t : Nat) (sh : xS) (ad : Nat → Nat) (V Vm : xV) : Prop :=
  ∃ (nb nc : Nat) (od : Nat → Nat), xDw sh ad cI cZ cO tys e0 nb od ∧ sh 16 = some (oMk cJ) ∧ Rel nb nc t od V Vm
theorem Rel.mono {nb nc t : Nat} {od : Nat → Nat} {V Vm : xV} (h : Rel nb nc t od V Vm) : Rel nb nc (t + 1) od V Vm := by
  obtain ⟨h1, h2, h3, h4, h5, h6, ⟨T, h7, h8⟩, h9⟩ := h
  exact ⟨h1, h2, h3, h4, h5, h6, ⟨T, by omega, h8⟩, h9⟩
theorem LI_mono {cI cZ cO cJ : ClassId} {tys : List (ClassId × FieldType)} {e0 : Nat} (t : Nat) (sh : xS) (ad : Nat → Nat) (V Vm : xV) (h : LI cI cZ cO cJ tys e0 t sh ad V Vm) : LI cI cZ cO cJ tys e0 (t + 1) sh ad V Vm := by
  obtain ⟨nb, nc, od, h1, h2, h3⟩ := h
  exact ⟨nb, nc, od, h1, h2, h3.mono⟩
theorem LI_do {cI cZ cO cJ : ClassId} {tys : List (ClassId × FieldType)} {e0 : Nat} (t : Nat) (sh : xS) (ad : Nat → Nat) (V Vm : xV) (h : LI cI cZ cO cJ tys e0 t sh ad V Vm) : xDo sh ad cI ∧ sh 16 = some (oMk cJ) := by
  obtain ⟨nb, nc, od, h1, h2, -⟩ := h
  exact ⟨h1.1, h2⟩
/-- the start -/
theorem LI_start {cI cZ cO cJ : ClassId} {tys : List (ClassId × FieldType)} {e0 : Nat} {sh : xS} {ad : Nat → Nat} {V Vm : xV} (h : xDw sh ad cI cZ cO tys e0 0 (fun i => i)) (h16 : sh 16 = some (oMk cJ)) (v0 : V 0 0 = 0) (v1 : ∀ n, n < 8 → V 1 n = 4) (v2 : ∀ n, V 2 n = 0) (v3 : ∀ n, V 3 n = 0) (v4 : V 4 2 = 0) (v5 : V 5 2 = 0) (v6 : V 6 6 = 0) (vm : ∀ i k, Vm i k = if i = 9 ∧ k < 8 then 4 else 0) : LI cI cZ cO cJ tys e0 0 sh ad V Vm := by
  have z : ∀ i k, i ≠ 9 → Vm i k = 0 := fun i k hi => by rw [vm, if_neg (fun z => hi z.1)]
  refine ⟨0, 0, fun i => i, h, h16, by omega, v4, v5, z _ _ (by decide), v6, z _ _ (by decide), ⟨0, by omega, v0, z _ _ (by decide)⟩, fun n hn => ⟨by rw [vm, if_pos ⟨rfl, hn⟩, v1 n hn], by rw [z _ _ (by decide), v2], by rw [z _ _ (by decide), v3]⟩, fun k hk => absurd hk (Nat.not_lt_zero k), fun n _ k hk => absurd hk (Nat.not_lt_zero k), fun j hj => absurd hj (Nat.not_lt_zero j), fun i j _ hj => absurd hj (Nat.not_lt_zero j), List.Perm.refl _, fun k _ _ => ⟨z _ _ (by decide), fun n _ => ⟨z _ _ (by decide), z _ _ (by decide), z _ _ (by decide)⟩⟩⟩
