/-- what the tables tell of the classes and arrays -/
theorem law_known {s : State} {args : Array Value} (hts : ∀ w ∈ lw_tbl, w.before args s = true) : ∃ (D : va_G) (cI cZ cO : ClassId), va_K D vwCl [(cI, .int), (cZ, .boolean), (cO, .object "java/lang/Object")] s := by
  have ar : ∀ ty : FieldType, (Cond.arrayClass ty).before args s = true → (∀ U c1, U.vm.findClass ("[" ++ ty.toString) = some c1 → va_RA U c1 ty) → ∃ cA : ClassId, ArrOfT s cA ty ∧ va_RA s cA ty := by
    intro ty h hr
    obtain ⟨cA, kA, comp, h1, h2, h3⟩ := Cond.arrayClass_spec h
    exact ⟨cA, fun n z => ⟨(fun k h => by cases h), kA, h2, comp, h3⟩, hr _ _ h1⟩
  obtain ⟨cI, i1, i2⟩ := ar .int (hts _ (by decide +kernel)) (fun _ _ h => h)
  obtain ⟨cZ, z1, z2⟩ := ar .boolean (hts _ (by decide +kernel)) (fun _ _ h => h)
  obtain ⟨comp, cO, kO, o1, o2, o3, o4, o5⟩ := Cond.arrayOver_spec (n := "java/lang/Object") (hts (.arrayOver (.object "java/lang/Object")) (by decide +kernel))
  obtain ⟨c0, s0, k0⟩ := u_known (C := RJ0) (T := TJ0) (N := 4) (n := 4) hts inJ0 (hts _ (by decide +kernel))
  obtain ⟨c1, s1, k1⟩ := u_known (C := RJ4) (T := TJ4) (N := 4) (n := 4) hts inJ4 (hts _ (by decide +kernel))
  obtain ⟨c2, s2, k2⟩ := u_known (C := RJx4a65c) (T := TJx4a65c) (N := 3) (n := 3) hts inJx4a65c (hts _ (by decide +kernel))
  obtain ⟨c3, s3, k3⟩ := u_known (C := RX0) (T := TX0) (N := 11) (n := 11) hts inX0 (hts _ (by decide +kernel))
  obtain ⟨c4, s4, k4⟩ := u_known (C := RX1) (T := TX1) (N := 7) (n := 7) hts inX1 (hts _ (by decide +kernel))
  obtain ⟨c5, s5, k5⟩ := u_known (C := RX2) (T := TX2) (N := 7) (n := 7) hts inX2 (hts _ (by decide +kernel))
  refine ⟨(fun c => match c with | 0 => c0 | 1 => c1 | 2 => c2 | 3 => c3 | 4 => c4 | _ => c5, fun c => match c with | 0 => s0 | 1 => s1 | 2 => s2 | 3 => s3 | 4 => s4 | _ => s5), cI, cZ, cO, ?_, ?_⟩
  · intro c q hq
    match c, hq with
    | 0, hq => cases hq; exact k0
    | 1, hq => cases hq; exact k1
    | 2, hq => cases hq; exact k2
    | 3, hq => cases hq; exact k3
    | 4, hq => cases hq; exact k4
    | 5, hq => cases hq; exact k5
    | c + 6, hq => simp at hq
  · intro k q hq
    match k, hq with
    | 0, hq => cases hq; exact ⟨i1, i2⟩
    | 1, hq => cases hq; exact ⟨z1, z2⟩
    | 2, hq => cases hq; exact ⟨fun n z => ⟨(fun k h => by cases h), kO, o3, comp, o4⟩, kO, comp, o3, o4, o1, o5⟩
    | k + 3, hq => simp at hq

/-- what the start tells of the statics, the texts and the class object -/
theorem law_facts {s : State} {args : Array Value} (hts : ∀ w ∈ lw_tbl, w.before args s = true) (hnar : (Jvm.Cond.and given_1 narrow_1).before args s = true) (A : Nat → Prop) (hA : ∀ a : Nat, a < s.heap.size → ¬ A a) : ∃ (mi e0 : Nat) (sa : Nat → Nat), xE mi e0 A s s.heap ∧ xF sa A s s.heap ∧ xN s := by
  have hs := flat_of_before _ hnar
  have fU := vx_Zqof (A := A) (hts (.laysStatic Bundle.tN "UNASSIGNED_STACK" Bundle.steD) (by decide +kernel)) (hts (.initialized Bundle.tN) (by decide +kernel)) (hs (.isRef (.static Bundle.tN "UNASSIGNED_STACK" Bundle.steD)) (by decide +kernel)) hA
  have fS := vx_Zqof (A := A) (hts (.laysStatic Bundle.tN "SUPPRESSED_SENTINEL" Bundle.listD) (by decide +kernel)) (hts (.initialized Bundle.tN) (by decide +kernel)) (hs (.isRef (.static Bundle.tN "SUPPRESSED_SENTINEL" Bundle.listD)) (by decide +kernel)) hA
  obtain ⟨e0, d1, d2⟩ := va_Tof (A := A) (N := 0) (f := fun _ => .null) (by decide) (hs (.arrayOf (.static "java/util/ArrayList" "DEFAULTCAPACITY_EMPTY_ELEMENTDATA" "[Ljava/lang/Object;") (.object "java/lang/Object")) (by decide +kernel)) (va_eqt (hs (.eq (.length (.static "java/util/ArrayList" "DEFAULTCAPACITY_EMPTY_ELEMENTDATA" "[Ljava/lang/Object;")) (.int 0)) (by decide +kernel))) (fun j hj => absurd hj (Nat.not_lt_zero j)) hA
  have dZ := va_Zof (A := A) (hts (.laysStatic "java/util/ArrayList" "DEFAULTCAPACITY_EMPTY_ELEMENTDATA" "[Ljava/lang/Object;") (by decide +kernel)) (hts (.initialized "java/util/ArrayList") (by decide +kernel)) d1 hA
  obtain ⟨mi, hmi⟩ := va_Mi.of (hs (.isRef (.mirror "[Ljava/lang/Object;")) (by decide +kernel))
  have st : ∀ q ∈ xFs, ∃ a : Nat, vk_R RX2 q.1 q.2 a s := by
    intro q hq
    have h1 : Cond.stringRef RX2 q.1 q.2 ∈ lw_tbl := (show ∀ q ∈ xFs, Cond.stringRef RX2 q.1 q.2 ∈ lw_tbl by decide +kernel) q hq
    have h2 : Cond.exactly (.string RX2 q.1) "java/lang/String" ∈ flatC (Jvm.Cond.and given_1 narrow_1) := (show ∀ q ∈ xFs, Cond.exactly (.string RX2 q.1) "java/lang/String" ∈ flatC (Jvm.Cond.and given_1 narrow_1) by decide +kernel) q hq
    obtain ⟨a, -, -, -, h3, -⟩ := Cond.exactly_spec (hs _ h2)
    exact ⟨a, vk_R.of (hts _ h1) h3⟩
  have st2 : ∀ k : Nat, ∃ a : Nat, ∀ q ∈ xFs, q.1 = k → vk_R RX2 q.1 q.2 a s := by
    intro k
    by_cases h : ∃ q ∈ xFs, q.1 = k
    · obtain ⟨q, hq, hk⟩ := h
      obtain ⟨a, ha⟩ := st q hq
      refine ⟨a, fun q' hq' hk' => ?_⟩
      rw [(show ∀ a ∈ xFs, ∀ b ∈ xFs, a.1 = b.1 → a = b by decide +kernel) q' hq' q hq (hk'.trans hk.symm)]
      exact ha
    · exact ⟨0, fun q hq hk => absurd ⟨q, hq, hk⟩ h⟩
  obtain ⟨sa, hsa⟩ := Classical.axiomOfChoice st2
  exact ⟨mi, e0, sa, ⟨va_AO.of (hts _ (by decide +kernel)), hmi, va_tabs (by decide +kernel) rfl (hts (.declares ⟨"java/lang/Object", "getClass", "()Ljava/lang/Class;"⟩) (by decide +kernel)), va_tabs (by decide +kernel) rfl (hts (.castable RX0 "java/lang/Object") (by decide +kernel)), dZ, _, d2⟩, ⟨fU, fS, fun w hw => va_tabs (xFw_ok w hw).1 rfl (hts w ((show ∀ w ∈ xFw, w ∈ lw_tbl by decide +kernel) w hw)), fun q hq => hsa q.1 q hq rfl⟩, va_Nc.of (hs (.not (.castable eIA eIO)) (by decide +kernel)), va_Nc.of (hs (.not (.castable eIS eIO)) (by decide +kernel)), va_Nc.of (hs (.not (.castable eIS eIA)) (by decide +kernel))⟩

set_option maxHeartbeats 4000000 in
set_option maxRecDepth 100000 in
theorem c_X2_init_w (l : Launch) {D : va_G} {tys : List (ClassId × FieldType)} {mi e0 : Nat} {cI cZ cO : ClassId} (hT0 : tys[0]? = some (cI, .int)) (hT1 : tys[1]? = some (cZ, .boolean)) (hT2 : tys[2]? = some (cO, .object "java/lang/Object")) (q : Nat) : xMa l yX2_init wsX2_init { frames := 4, cells := 12, slots := 200, locals := 220 } D (sU sN 0 dRaw) (fun _ => q) tys mi e0 (fun _ _ => 0) [.ref q] (fun v sh' ad' V' => v = none ∧ xDl sh' ad' cI cZ cO tys 0 (fun i => i) ∧ ad' 0 = q ∧ sh' 4 = some (fun f => .inr (2, lFs e0 f)) ∧ sh' 5 = some (fun f => .inr (2, lFs e0 f)) ∧ V' 0 0 = 0 ∧ (∀ n, n < 8 → V' 1 n = 4) ∧ (∀ n, V' 2 n = 0) ∧ (∀ n, V' 3 n = 0) ∧ V' 4 2 = 0 ∧ V' 5 2 = 0 ∧ V' 6 6 = 0 ∧ (∀ i, 15 ≤ i → sh' i = none)) := by
  refine xOfa (cc := cX2_init) (nL := 2) (ret := none) (own := RX2) (by decide) rfl rfl (Nat.le_of_ble_eq_true rfl) (sU_I _ _ _) ?_
  intro p e s m args below meth c A ls hA hname B E G hl
  have hx := B.1.1
  have hb := B.1.2.1
  have hin1 : ∀ w ∈ wsX10, w ∈ wsX2_init := by decide +kernel
  have hin2 : ∀ w ∈ wsX20, w ∈ wsX2_init := by decide +kernel
  have hinL : ∀ w ∈ wsJx4a65c0, w ∈ wsX2_init := by decide +kernel
  have hl : lv_has ls 2 [(0, .ref q)] := hl
  refine lv_aload_n hx hb dX2_init_0 rfl (lv_at hl 0 rfl) ?_
  refine W.objInit hx hb B.1.2.2.2.1 (B.1.2.2.2.2 (.methodLink RX2 1 objectInit) (by decide +kernel)) (B.1.2.2.2.2 (.instanceMethod objectInit) (by decide +kernel)) (B.1.2.2.2.2 (.code objectInit ⟨#[0xb1]⟩ 1 none) (by decide +kernel)) rfl (by rw [B.1.2.2.1]; exact hl.1) rfl dX2_init_1 (Nat.le_of_ble_eq_true rfl) (Nat.le_of_ble_eq_true rfl) ?_
  refine W.eq (g2 := F0 m 4 ls []) rfl ?_
  refine lv_aload_n hx hb dX2_init_4 rfl (lv_at hl 0 rfl) ?_
  refine lv_iconst (v := 0) hx hb dX2_init_5 (by decide) ?_
  refine x_putR B G 0 (C := RX2) (T := TX2) (N := 7) (ci := 5) (fs := (fun f => [.int (f 0), .null, .null, .null, .null, .null, .null])) (fs' := (fun f => [.int (f 0), .null, .null, .null, .null, .null, .null])) (rfl) rfl hin2 tyX2 tyX2_ok nmX2 0 (by omega) (by decide +kernel) (fun x h => h) (Or.inl rfl) (ty := .int) (by decide +kernel) rfl rfl (V' := xu (fun _ _ => 0) 0 0 0) (fun j h => xu_ne _ _ _ h) rfl (Nat.le_of_ble_eq_true rfl) dX2_init_6 (fun H locs B G => ?_)
  refine lv_aload_n hx hb dX2_init_9 rfl (lv_at hl 0 rfl) ?_
  refine lv_bipush (v := 8) hx hb dX2_init_10 (by decide) ?_
  refine x_newa B G 1 .int (atype := .int) rfl rfl (by decide +kernel) 0 hT0 (fun _ _ h => h) (N := 8) (by decide) rfl (by decide) (by show 1 ≤ 12; decide) (Nat.le_of_ble_eq_true rfl) dX2_init_12 (fun q12 H B G => ?_)
  refine x_putR B G 0 (C := RX2) (T := TX2) (N := 7) (ci := 5) (fs := (fun f => [.int (f 0), .null, .null, .null, .null, .null, .null])) (fs' := (fun f => [.int (f 0), .ref q12, .null, .null, .null, .null, .null])) (rfl) rfl hin2 tyX2 tyX2_ok nmX2 1 (by omega) (by decide +kernel) (fun x h => h) (Or.inr ⟨rfl, hname, rfl⟩) (ty := (.array .int)) (by decide +kernel) rfl rfl (V' := vU (xu (fun _ _ => 0) 0 0 0) 1 (fun _ => 0)) (fun _ _ => rfl) rfl (Nat.le_of_ble_eq_true rfl) dX2_init_14 (fun H locs B G => ?_)
  refine lv_aload_n hx hb dX2_init_17 rfl (lv_at hl 0 rfl) ?_
  refine lv_bipush (v := 8) hx hb dX2_init_18 (by decide) ?_
  refine x_newa B G 2 .int (atype := .int) rfl rfl (by decide +kernel) 0 hT0 (fun _ _ h => h) (N := 8) (by decide) rfl (by decide) (by show 2 ≤ 12; decide) (Nat.le_of_ble_eq_true rfl) dX2_init_20 (fun q20 H B G => ?_)
  refine x_putR B G 0 (C := RX2) (T := TX2) (N := 7) (ci := 5) (fs := (fun f => [.int (f 0), .ref q12, .null, .null, .null, .null, .null])) (fs' := (fun f => [.int (f 0), .ref q12, .ref q20, .null, .null, .null, .null])) (rfl) rfl hin2 tyX2 tyX2_ok nmX2 2 (by omega) (by decide +kernel) (fun x h => h) (Or.inr ⟨rfl, hname, rfl⟩) (ty := (.array .int)) (by decide +kernel) rfl rfl (V' := vU (vU (xu (fun _ _ => 0) 0 0 0) 1 (fun _ => 0)) 2 (fun _ => 0)) (fun _ _ => rfl) rfl (Nat.le_of_ble_eq_true rfl) dX2_init_22 (fun H locs B G => ?_)
  refine lv_aload_n hx hb dX2_init_25 rfl (lv_at hl 0 rfl) ?_
  refine lv_bipush (v := 8) hx hb dX2_init_26 (by decide) ?_
  refine x_newa B G 3 .int (atype := .int) rfl rfl (by decide +kernel) 0 hT0 (fun _ _ h => h) (N := 8) (by decide) rfl (by decide) (by show 3 ≤ 12; decide) (Nat.le_of_ble_eq_true rfl) dX2_init_28 (fun q28 H B G => ?_)
  refine x_putR B G 0 (C := RX2) (T := TX2) (N := 7) (ci := 5) (fs := (fun f => [.int (f 0), .ref q12, .ref q20, .null, .null, .null, .null])) (fs' := (fun f => [.int (f 0), .ref q12, .ref q20, .ref q28, .null, .null, .null])) (rfl) rfl hin2 tyX2 tyX2_ok nmX2 3 (by omega) (by decide +kernel) (fun x h => h) (Or.inr ⟨rfl, hname, rfl⟩) (ty := (.array .int)) (by decide +kernel) rfl rfl (V' := vU (vU (vU (xu (fun _ _ => 0) 0 0 0) 1 (fun _ => 0)) 2 (fun _ => 0)) 3 (fun _ => 0)) (fun _ _ => rfl) rfl (Nat.le_of_ble_eq_true rfl) dX2_init_30 (fun H locs B G => ?_)
  refine lv_aload_n hx hb dX2_init_33 rfl (lv_at hl 0 rfl) ?_
  refine x_newS B G 0 (C := RJx4a65c) (T := TJx4a65c) (N := 3) (ci := 2) (fun f => [.int (f 0), .null, .int (f 2)]) rfl hinL tyJx4a65c tyJx4a65c_ok (by decide +kernel) (by decide +kernel) (by decide +kernel) (fun j hj => by rcases (show j = 0 ∨ j = 1 ∨ j = 2 by omega) with rfl | rfl | rfl <;> rfl) (by show 4 ≤ 12; decide) (Nat.le_of_ble_eq_true rfl) dX2_init_34 (fun q34 H G W0 hap hAq => ?_)
  refine lv_dup hx hb dX2_init_37 rfl ?_
  refine x_callISub (rest := [.ref q34, .ref q]) B E G W0 (fun i mk hi => hAq) hap (c_Jx4a65c_init_da8c8 l q34) (cwI 0 B.1.2.2.2.2 gX2_init_Jx4a65c_init_da8c8 rfl rfl rfl (B.1.2.2.2.2 (.initialized RJx4a65c) (by decide +kernel)) (B.1.2.2.2.2 (.methodLink RX2 25 yJx4a65c_init_da8c8) (by decide +kernel)) (B.1.2.2.2.2 (.instanceMethod yJx4a65c_init_da8c8) (by decide +kernel)) rfl (by decide +kernel) ⟨Nat.le_of_ble_eq_true rfl, Nat.le_of_ble_eq_true rfl⟩) rfl hl.1 rfl (Nat.le_of_ble_eq_true rfl) ⟨Nat.le_of_ble_eq_true rfl, Nat.le_of_ble_eq_true rfl⟩ dX2_init_38 (fun v sh38 ad38 V38 H locs hR hI9 hA9 hap9 W9 G => ?_)
  obtain ⟨rfl, hr1_38, hr2_38, hr3_38⟩ := hR
  obtain ⟨B, G⟩ := x_join1 B G W9 hap9 hA9 hr1_38 4
  subst hr2_38
  refine W.eq (g2 := F0 m 41 ls [.ref (ad38 0), .ref q]) rfl ?_
  refine x_putR B G 0 (C := RX2) (T := TX2) (N := 7) (ci := 5) (fs := (fun f => [.int (f 0), .ref q12, .ref q20, .ref q28, .null, .null, .null])) (fs' := (fun f => [.int (f 0), .ref q12, .ref q20, .ref q28, .ref (ad38 0), .null, .null])) (rfl) rfl hin2 tyX2 tyX2_ok nmX2 4 (by omega) (by decide +kernel) (fun x h => h) (Or.inr ⟨rfl, hname, rfl⟩) (ty := (.object "java/util/ArrayList")) (by decide +kernel) rfl rfl (V' := vU (vU (vU (vU (xu (fun _ _ => 0) 0 0 0) 1 (fun _ => 0)) 2 (fun _ => 0)) 3 (fun _ => 0)) 4 (V38 0)) (fun _ _ => rfl) rfl (Nat.le_of_ble_eq_true rfl) dX2_init_41 (fun H locs B G => ?_)
  refine lv_aload_n hx hb dX2_init_44 rfl (lv_at hl 0 rfl) ?_
  refine x_newS B G 0 (C := RJx4a65c) (T := TJx4a65c) (N := 3) (ci := 2) (fun f => [.int (f 0), .null, .int (f 2)]) rfl hinL tyJx4a65c tyJx4a65c_ok (by decide +kernel) (by decide +kernel) (by decide +kernel) (fun j hj => by rcases (show j = 0 ∨ j = 1 ∨ j = 2 by omega) with rfl | rfl | rfl <;> rfl) (by show 5 ≤ 12; decide) (Nat.le_of_ble_eq_true rfl) dX2_init_45 (fun q45 H G W0 hap hAq => ?_)
  refine lv_dup hx hb dX2_init_48 rfl ?_
  refine x_callISub (rest := [.ref q45, .ref q]) B E G W0 (fun i mk hi => hAq) hap (c_Jx4a65c_init_da8c8 l q45) (cwI 0 B.1.2.2.2.2 gX2_init_Jx4a65c_init_da8c8 rfl rfl rfl (B.1.2.2.2.2 (.initialized RJx4a65c) (by decide +kernel)) (B.1.2.2.2.2 (.methodLink RX2 25 yJx4a65c_init_da8c8) (by decide +kernel)) (B.1.2.2.2.2 (.instanceMethod yJx4a65c_init_da8c8) (by decide +kernel)) rfl (by decide +kernel) ⟨Nat.le_of_ble_eq_true rfl, Nat.le_of_ble_eq_true rfl⟩) rfl hl.1 rfl (Nat.le_of_ble_eq_true rfl) ⟨Nat.le_of_ble_eq_true rfl, Nat.le_of_ble_eq_true rfl⟩ dX2_init_49 (fun v sh49 ad49 V49 H locs hR hI9 hA9 hap9 W9 G => ?_)
  obtain ⟨rfl, hr1_49, hr2_49, hr3_49⟩ := hR
  obtain ⟨B, G⟩ := x_join1 B G W9 hap9 hA9 hr1_49 5
  subst hr2_49
  refine W.eq (g2 := F0 m 52 ls [.ref (ad49 0), .ref q]) rfl ?_
  refine x_putR B G 0 (C := RX2) (T := TX2) (N := 7) (ci := 5) (fs := (fun f => [.int (f 0), .ref q12, .ref q20, .ref q28, .ref (ad38 0), .null, .null])) (fs' := (fun f => [.int (f 0), .ref q12, .ref q20, .ref q28, .ref (ad38 0), .ref (ad49 0), .null])) (rfl) rfl hin2 tyX2 tyX2_ok nmX2 5 (by omega) (by decide +kernel) (fun x h => h) (Or.inr ⟨rfl, hname, rfl⟩) (ty := (.object "java/util/ArrayList")) (by decide +kernel) rfl rfl (V' := vU (vU (vU (vU (vU (xu (fun _ _ => 0) 0 0 0) 1 (fun _ => 0)) 2 (fun _ => 0)) 3 (fun _ => 0)) 4 (V38 0)) 5 (V49 0)) (fun _ _ => rfl) rfl (Nat.le_of_ble_eq_true rfl) dX2_init_52 (fun H locs B G => ?_)
  refine lv_aload_n hx hb dX2_init_55 rfl (lv_at hl 0 rfl) ?_
  refine x_newS B G 6 (C := RX1) (T := TX1) (N := 7) (ci := 4) (fun f => [.null, .null, .null, .null, .null, .null, .int (f 6)]) rfl hin1 tyX1 tyX1_ok (by decide +kernel) (by decide +kernel) (by decide +kernel) (fun j hj => by rcases (show j = 0 ∨ j = 1 ∨ j = 2 ∨ j = 3 ∨ j = 4 ∨ j = 5 ∨ j = 6 by omega) with rfl | rfl | rfl | rfl | rfl | rfl | rfl <;> rfl) (by show 6 ≤ 12; decide) (Nat.le_of_ble_eq_true rfl) dX2_init_56 (fun q56 H G W0 hap hAq => ?_)
  refine lv_dup hx hb dX2_init_59 rfl ?_
  refine x_callISub (rest := [.ref q56, .ref q]) B E G W0 (fun i mk hi => hAq) hap (c_X1_init l hT0 hT1 q56) (cwI 0 B.1.2.2.2.2 gX2_init_X1_init rfl rfl rfl (B.1.2.2.2.2 (.initialized RX1) (by decide +kernel)) (B.1.2.2.2.2 (.methodLink RX2 35 yX1_init) (by decide +kernel)) (B.1.2.2.2.2 (.instanceMethod yX1_init) (by decide +kernel)) rfl (by decide +kernel) ⟨Nat.le_of_ble_eq_true rfl, Nat.le_of_ble_eq_true rfl⟩) rfl hl.1 rfl (Nat.le_of_ble_eq_true rfl) ⟨Nat.le_of_ble_eq_true rfl, Nat.le_of_ble_eq_true rfl⟩ dX2_init_60 (fun v sh60 ad60 V60 H locs hR hI9 hA9 hap9 W9 G => ?_)
  obtain ⟨rfl, hp1, hp2, hp3⟩ := hR
  have B := B.joinJ hI9 hA9 hap9 jPl
  have G := G.joinJ W9 jPl
  subst hp2
  refine W.eq (g2 := F0 m 63 ls [.ref (ad60 6), .ref q]) rfl ?_
  refine x_putR B G 0 (C := RX2) (T := TX2) (N := 7) (ci := 5) (fs := (fun f => [.int (f 0), .ref q12, .ref q20, .ref q28, .ref (ad38 0), .ref (ad49 0), .null])) (fs' := (fun f => [.int (f 0), .ref q12, .ref q20, .ref q28, .ref (ad38 0), .ref (ad49 0), .ref (ad60 6)])) (rfl) rfl hin2 tyX2 tyX2_ok nmX2 6 (by omega) (by decide +kernel) (fun x h => h) (Or.inr ⟨rfl, hname, rfl⟩) (ty := (.object "Delaypouch$Plan")) (by decide +kernel) rfl rfl (V' := mJ jPl V60 (vU (vU (vU (vU (vU (xu (fun _ _ => 0) 0 0 0) 1 (fun _ => 0)) 2 (fun _ => 0)) 3 (fun _ => 0)) 4 (V38 0)) 5 (V49 0))) (fun _ _ => rfl) rfl (Nat.le_of_ble_eq_true rfl) dX2_init_63 (fun H locs B G => ?_)
  refine lv_iconst (v := 0) hx hb dX2_init_66 (by decide) ?_
  refine lv_istore_n (lv' := [(1, .int 0), (0, .ref q)]) hx hb dX2_init_67 rfl hl (by decide) rfl (fun ls hl => ?_)
  obtain ⟨sh, eF⟩ : ∃ z : xS, z = (sU (mJ jPl sh60 (sU (sU (sU (sU (sU (sU (sU (sU (sU (sU (sU (sU sN 0 dRaw) 0 (fun f => .inr (5, [.int (f 0), .null, .null, .null, .null, .null, .null]))) 1 (fun f => .inl (cI, 8, .inl f))) 0 (fun f => .inr (5, [.int (f 0), .ref q12, .null, .null, .null, .null, .null]))) 2 (fun f => .inl (cI, 8, .inl f))) 0 (fun f => .inr (5, [.int (f 0), .ref q12, .ref q20, .null, .null, .null, .null]))) 3 (fun f => .inl (cI, 8, .inl f))) 0 (fun f => .inr (5, [.int (f 0), .ref q12, .ref q20, .ref q28, .null, .null, .null]))) 4 (fun f => .inr (2, lFs e0 f))) 0 (fun f => .inr (5, [.int (f 0), .ref q12, .ref q20, .ref q28, .ref (ad38 0), .null, .null]))) 5 (fun f => .inr (2, lFs e0 f))) 0 (fun f => .inr (5, [.int (f 0), .ref q12, .ref q20, .ref q28, .ref (ad38 0), .ref (ad49 0), .null])))) 0 (fun f => .inr (5, [.int (f 0), .ref q12, .ref q20, .ref q28, .ref (ad38 0), .ref (ad49 0), .ref (ad60 6)]))) := ⟨_, rfl⟩
  obtain ⟨ad, eA⟩ : ∃ z : Nat → Nat, z = (mJ jPl ad60 (aU (aU (aU (aU (aU (fun _ => q) 1 q12) 2 q20) 3 q28) 4 (ad38 0)) 5 (ad49 0))) := ⟨_, rfl⟩
  obtain ⟨VF, eV0⟩ : ∃ z : xV, z = mJ jPl V60 (vU (vU (vU (vU (vU (xu (fun _ _ => 0) 0 0 0) 1 (fun _ => 0)) 2 (fun _ => 0)) 3 (fun _ => 0)) 4 (V38 0)) 5 (V49 0)) := ⟨_, rfl⟩
  have B : xB p s m args meth c cX2_init 2 none wsX2_init RX2 D sh ad A tys := by rw [eF, eA]; exact B
  have G : xG D sh ad A s.heap VF H locs := by rw [eF, eA, eV0]; exact G
  have e_0 : q = ad 0 := by rw [eA]; rfl
  have e_1 : ad 1 = q12 := by rw [eA]; rfl
  have hs0 : sh 0 = some (fun f => .inr (5, [.int (f 0), .ref q12, .ref q20, .ref q28, .ref (ad38 0), .ref (ad49 0), .ref (ad60 6)])) := by rw [eF]; rfl
  have hs1 : sh 1 = some (fun f => .inl (cI, 8, .inl f)) := by rw [eF]; rfl
  have hl : lv_has ls 2 [(1, .int 0), (0, .ref (ad 0))] := lv_cast hl (by rw [e_0])
  have loop_68 : ∀ (f i : Nat), i ≤ 8 → 8 < i + f → ∀ (H : Heap) (locs : List Loc) (ls : Array Slot), xG D sh ad A s.heap (cFill VF 1 4 i) H locs → lv_has ls 2 [(0, .ref (ad 0)), (1, .int (nI i))] → W p l e ({ frames := 4, cells := 12, slots := 200, locals := 220 }) s m args below meth c H locs 12 173 (xQa below D (sU sN 0 dRaw) (fun _ => q) tys s.heap.size A args s 12 200 (fun v sh' ad' V' => v = none ∧ xDl sh' ad' cI cZ cO tys 0 (fun i => i) ∧ ad' 0 = q ∧ sh' 4 = some (fun f => .inr (2, lFs e0 f)) ∧ sh' 5 = some (fun f => .inr (2, lFs e0 f)) ∧ V' 0 0 = 0 ∧ (∀ n, n < 8 → V' 1 n = 4) ∧ (∀ n, V' 2 n = 0) ∧ (∀ n, V' 3 n = 0) ∧ V' 4 2 = 0 ∧ V' 5 2 = 0 ∧ V' 6 6 = 0 ∧ (∀ i, 15 ≤ i → sh' i = none))) (F0 m 68 ls []) := by
    intro f
    induction f with
    | zero => intro i h1 h2; exact absurd h2 (by omega)
    | succ f ih_68 =>
      intro i hi hf H locs ls G hl
      refine lv_iload_n hx hb dX2_init_68 rfl (lv_at hl 1 rfl) ?_
      refine lv_bipush (v := 8) hx hb dX2_init_69 (by decide) ?_
      refine lv_icmp_ge (tgt := 87) hx hb dX2_init_71 (by decide) (fun c_71 => ?_) (fun c_71 => ?_)
      · skip
        have c_71 : 8 ≤ i := (nI_leI (a := 8) (b := i) (by omega) (by omega)).mp c_71
        have e_i : i = 8 := by omega
        subst e_i
        have hs4 : sh 4 = some (fun f => .inr (2, lFs e0 f)) := by rw [eF]; rfl
        have hs5 : sh 5 = some (fun f => .inr (2, lFs e0 f)) := by rw [eF]; rfl
        obtain ⟨p1, p2, p3, p4, p5, p6, p7⟩ := hp1
        have hDl : xDl sh ad cI cZ cO tys 0 (fun i => i) := ⟨by rw [eF, eA]; exact ⟨rfl, rfl, rfl, rfl⟩, by rw [eF, eA]; exact ⟨p1, p2, p3, p4, p5, p6, p7⟩, ⟨e0, hs4, fun z => absurd rfl z⟩, ⟨e0, hs5, fun z => absurd rfl z⟩, fun k hk => absurd hk (Nat.not_lt_zero k), fun k hk => absurd hk (Nat.not_lt_zero k), ⟨hT0, hT1, B.2.2.2.2.1⟩, hT2, Nat.zero_le _⟩
        have hno : ∀ i, 15 ≤ i → sh i = none := fun i hi => by
          have hj : jPl i = false := by
            unfold jPl
            have h1 : (i == 6) = false := by simp; omega
            have h2 : decide (i ≤ 14) = false := by simp; omega
            rw [h1, h2, Bool.and_false]; rfl
          rw [eF]
          repeat (first | rw [sU_n _ _ (show i ≠ _ by omega)] | rw [mJ_f hj])
          rfl
        exact x_aendv hA B G (⟨rfl, hDl, e_0.symm, hs4, hs5, by rw [cFill_o _ _ _ _ (by decide), eV0]; rfl, fun n hn => by rw [cFill_s, if_pos hn], fun n => by rw [cFill_o _ _ _ _ (by decide), eV0]; rfl, fun n => by rw [cFill_o _ _ _ _ (by decide), eV0]; rfl, by rw [cFill_o _ _ _ _ (by decide), eV0]; exact hr3_38, by rw [cFill_o _ _ _ _ (by decide), eV0]; exact hr3_49, by rw [cFill_o _ _ _ _ (by decide), eV0]; exact hp3, hno⟩) (by show 12 ≤ 12; decide) (by show 173 ≤ 200; decide) dX2_init_87
      · skip
        have c_71 : ¬ (8 ≤ i) := fun h9 => c_71 ((nI_leI (a := 8) (b := i) (by omega) (by omega)).mpr h9)
        refine lv_aload_n hx hb dX2_init_74 rfl (lv_at hl 0 rfl) ?_
        refine x_get B G 0 hs0 (C := RX2) (T := TX2) (N := 7) rfl hin2 1 (by omega) (by decide +kernel) (fun x h => h) (v := .ref (ad 1)) (by rw [e_1]; rfl) dX2_init_75 ?_
        refine lv_iload_n hx hb dX2_init_78 rfl (lv_at hl 1 rfl) ?_
        refine lv_iconst (v := 4) hx hb dX2_init_79 (by decide) ?_
        refine x_ast B G 1 hs1 0 hT0 i (show i < 8 by omega) rfl (by decide) dX2_init_80 (fun H locs G => ?_)
        refine lv_iinc (v := nI (i + 1)) (lv' := [(1, .int (nI (i + 1))), (0, .ref (ad 0))]) hx hb dX2_init_81 hl (k := 1) rfl (nI_add i 1) (by decide) rfl (fun ls hl => ?_)
        refine lv_goto (tgt := 68) hx hb dX2_init_84 (by decide) ?_
        have hl := lv_sub (l' := [(0, .ref (ad 0)), (1, .int (nI (i + 1)))]) hl [1, 0] rfl
        have eV : xu (cFill VF 1 4 i) 1 i 4 = cFill VF 1 4 (i + 1) := rfl
        rw [eV] at G
        exact ih_68 (i + 1) (by omega) (by omega) _ _ _ G hl
  have hl := lv_sub (l' := [(0, .ref (ad 0)), (1, .int 0)]) hl [1, 0] rfl
  have hl := lv_cast hl (congrArg (fun z : Int32 => ([(0, .ref (ad 0)), (1, .int z)] : List (Nat × Value))) (show 0 = (nI 0) from rfl))
  have eV : VF = cFill VF 1 4 0 := rfl
  rw [eV] at G
  exact loop_68 (8 + 1) 0 (by omega) (by omega) _ _ _ G hl
theorem xDw.start {sh : xS} {ad : Nat → Nat} {cI cZ cO : ClassId} {tys : List (ClassId × FieldType)} {e0 : Nat} (h : xDl sh ad cI cZ cO tys 0 (fun i => i)) (h4 : sh 4 = some (fun f => .inr (2, lFs e0 f))) (h5 : sh 5 = some (fun f => .inr (2, lFs e0 f))) (hno : ∀ i, 15 ≤ i → sh i = none) : xDw sh ad cI cZ cO tys e0 0 (fun i => i) := by
  obtain ⟨g1, g2, -, -, g5, g6, g7, g8, g9⟩ := h
  exact ⟨g1, g2, ⟨e0, fun _ => none, h4, Or.inl ⟨rfl, rfl⟩, fun j hj => absurd hj (Nat.not_lt_zero j)⟩, ⟨e0, fun _ => none, h5, Or.inl ⟨rfl, rfl⟩, fun j hj => absurd hj (Nat.not_lt_zero j)⟩, g5, g6, g7, g8, g9, hno 15 (by omega), fun i hi => hno i (by omega)⟩
theorem xB.of {p : Program} {s : State} {m : MethodId} {args : Array Value} {meth : Method} {c : Code} {cc : ByteArray} {nL : Nat} {ret : Option FieldType} {Ts : List Cond} {own : String} {D : va_G} {sh shm : xS} {ad adm : Nat → Nat} {A : Nat → Prop} {tys : List (ClassId × FieldType)} (B : xB p s m args meth c cc nL ret Ts own D sh ad A tys) (hI : xI shm adm) (hA : ∀ (i : Nat) (mk : (Nat → Int32) → va_E), shm i = some mk → A (adm i)) : xB p s m args meth c cc nL ret Ts own D shm adm A tys :=
  ⟨B.1, B.2.1, B.2.2.1, B.2.2.2.1, hI, hA, B.2.2.2.2.2.2⟩
