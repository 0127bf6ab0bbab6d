/-- what the tables tell of the classes and arrays -/
theorem law_known {s : State} {args : Array Value} (hts : ∀ w ∈ lw_tbl, w.before args s = true) : ∃ (D : va_G) (cI cZ cO cJ : ClassId), va_K D vwCl [(cI, .int), (cZ, .boolean), (cO, .object "java/lang/Object"), (cJ, .long)] s := by
  have ar : ∀ ty : FieldType, (Cond.arrayClass ty).before args s = true → (∀ U c1, U.vm.findClass ("[" ++ ty.toString) = some c1 → va_RA U c1 ty) → ∃ cA : ClassId, ArrOfT s cA ty ∧ va_RA s cA ty := by
    intro ty h hr
    obtain ⟨cA, kA, comp, h1, h2, h3⟩ := Cond.arrayClass_spec h
    exact ⟨cA, fun n z => ⟨(fun k h => by cases h), kA, h2, comp, h3⟩, hr _ _ h1⟩
  obtain ⟨cI, i1, i2⟩ := ar .int (hts _ (by decide +kernel)) (fun _ _ h => h)
  obtain ⟨cZ, z1, z2⟩ := ar .boolean (hts _ (by decide +kernel)) (fun _ _ h => h)
  obtain ⟨cJ, j1, j2⟩ := ar .long (hts _ (by decide +kernel)) (fun _ _ h => h)
  obtain ⟨comp, cO, kO, o1, o2, o3, o4, o5⟩ := Cond.arrayOver_spec (n := "java/lang/Object") (hts (.arrayOver (.object "java/lang/Object")) (by decide +kernel))
  obtain ⟨c0, s0, k0⟩ := u_known (C := RJ0) (T := TJ0) (N := 4) (n := 4) hts inJ0 (hts _ (by decide +kernel))
  obtain ⟨c1, s1, k1⟩ := u_known (C := RJ4) (T := TJ4) (N := 4) (n := 4) hts inJ4 (hts _ (by decide +kernel))
  obtain ⟨c2, s2, k2⟩ := u_known (C := RJx4a65c) (T := TJx4a65c) (N := 3) (n := 3) hts inJx4a65c (hts _ (by decide +kernel))
  obtain ⟨c3, s3, k3⟩ := u_known (C := RX0) (T := TX0) (N := 11) (n := 11) hts inX0 (hts _ (by decide +kernel))
  obtain ⟨c4, s4, k4⟩ := u_known (C := RX1) (T := TX1) (N := 7) (n := 7) hts inX1 (hts _ (by decide +kernel))
  obtain ⟨c5, s5, k5⟩ := u_known (C := RX2) (T := TX2) (N := 7) (n := 7) hts inX2 (hts _ (by decide +kernel))
  obtain ⟨c6, s6, k6⟩ := u_known (C := RX3) (T := TX3) (N := 21) (n := 21) hts inX3 (hts _ (by decide +kernel))
  refine ⟨(fun c => match c with | 0 => c0 | 1 => c1 | 2 => c2 | 3 => c3 | 4 => c4 | 5 => c5 | _ => c6, fun c => match c with | 0 => s0 | 1 => s1 | 2 => s2 | 3 => s3 | 4 => s4 | 5 => s5 | _ => s6), cI, cZ, cO, cJ, ?_, ?_⟩
  · intro c q hq
    match c, hq with
    | 0, hq => cases hq; exact k0
    | 1, hq => cases hq; exact k1
    | 2, hq => cases hq; exact k2
    | 3, hq => cases hq; exact k3
    | 4, hq => cases hq; exact k4
    | 5, hq => cases hq; exact k5
    | 6, hq => cases hq; exact k6
    | c + 7, hq => simp at hq
  · intro k q hq
    match k, hq with
    | 0, hq => cases hq; exact ⟨i1, i2⟩
    | 1, hq => cases hq; exact ⟨z1, z2⟩
    | 2, hq => cases hq; exact ⟨fun n z => ⟨(fun k h => by cases h), kO, o3, comp, o4⟩, kO, comp, o3, o4, o1, o5⟩
    | 3, hq => cases hq; exact ⟨j1, j2⟩
    | k + 4, hq => simp at hq
