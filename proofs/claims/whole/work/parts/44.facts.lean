/-- what the start tells of the statics, the texts and the class object -/
theorem law_facts {s : State} {args : Array Value} (hts : ∀ w ∈ lw_tbl, w.before args s = true) (hnar : (Jvm.Cond.and given_1 narrow_1).before args s = true) (A : Nat → Prop) (hA : ∀ a : Nat, a < s.heap.size → ¬ A a) : ∃ (mi e0 : Nat) (sa : Nat → Nat), xE mi e0 A s s.heap ∧ xF sa A s s.heap ∧ xN s := by
  have hs := flat_of_before _ hnar
  have fU := vx_Zqof (A := A) (hts (.laysStatic Bundle.tN "UNASSIGNED_STACK" Bundle.steD) (by decide +kernel)) (hts (.initialized Bundle.tN) (by decide +kernel)) (hs (.isRef (.static Bundle.tN "UNASSIGNED_STACK" Bundle.steD)) (by decide +kernel)) hA
  have fS := vx_Zqof (A := A) (hts (.laysStatic Bundle.tN "SUPPRESSED_SENTINEL" Bundle.listD) (by decide +kernel)) (hts (.initialized Bundle.tN) (by decide +kernel)) (hs (.isRef (.static Bundle.tN "SUPPRESSED_SENTINEL" Bundle.listD)) (by decide +kernel)) hA
  obtain ⟨e0, d1, d2⟩ := va_Tof (A := A) (N := 0) (f := fun _ => .null) (by decide) (hs (.arrayOf (.static "java/util/ArrayList" "DEFAULTCAPACITY_EMPTY_ELEMENTDATA" "[Ljava/lang/Object;") (.object "java/lang/Object")) (by decide +kernel)) (va_eqt (hs (.eq (.length (.static "java/util/ArrayList" "DEFAULTCAPACITY_EMPTY_ELEMENTDATA" "[Ljava/lang/Object;")) (.int 0)) (by decide +kernel))) (fun j hj => absurd hj (Nat.not_lt_zero j)) hA
  have dZ := va_Zof (A := A) (hts (.laysStatic "java/util/ArrayList" "DEFAULTCAPACITY_EMPTY_ELEMENTDATA" "[Ljava/lang/Object;") (by decide +kernel)) (hts (.initialized "java/util/ArrayList") (by decide +kernel)) d1 hA
  obtain ⟨mi, hmi⟩ := va_Mi.of (hs (.isRef (.mirror "[Ljava/lang/Object;")) (by decide +kernel))
  have st : ∀ q ∈ xFs, ∃ a : Nat, vk_R RX2 q.1 q.2 a s := by
    intro q hq
    have h1 : Cond.stringRef RX2 q.1 q.2 ∈ lw_tbl := (show ∀ q ∈ xFs, Cond.stringRef RX2 q.1 q.2 ∈ lw_tbl by decide +kernel) q hq
    have h2 : Cond.exactly (.string RX2 q.1) "java/lang/String" ∈ flatC (Jvm.Cond.and given_1 narrow_1) := (show ∀ q ∈ xFs, Cond.exactly (.string RX2 q.1) "java/lang/String" ∈ flatC (Jvm.Cond.and given_1 narrow_1) by decide +kernel) q hq
    obtain ⟨a, -, -, -, h3, -⟩ := Cond.exactly_spec (hs _ h2)
    exact ⟨a, vk_R.of (hts _ h1) h3⟩
  have st2 : ∀ k : Nat, ∃ a : Nat, ∀ q ∈ xFs, q.1 = k → vk_R RX2 q.1 q.2 a s := by
    intro k
    by_cases h : ∃ q ∈ xFs, q.1 = k
    · obtain ⟨q, hq, hk⟩ := h
      obtain ⟨a, ha⟩ := st q hq
      refine ⟨a, fun q' hq' hk' => ?_⟩
      rw [(show ∀ a ∈ xFs, ∀ b ∈ xFs, a.1 = b.1 → a = b by decide +kernel) q' hq' q hq (hk'.trans hk.symm)]
      exact ha
    · exact ⟨0, fun q hq hk => absurd ⟨q, hq, hk⟩ h⟩
  obtain ⟨sa, hsa⟩ := Classical.axiomOfChoice st2
  exact ⟨mi, e0, sa, ⟨va_AO.of (hts _ (by decide +kernel)), hmi, va_tabs (by decide +kernel) rfl (hts (.declares ⟨"java/lang/Object", "getClass", "()Ljava/lang/Class;"⟩) (by decide +kernel)), va_tabs (by decide +kernel) rfl (hts (.castable RX0 "java/lang/Object") (by decide +kernel)), dZ, _, d2⟩, ⟨fU, fS, fun w hw => va_tabs (xFw_ok w hw).1 rfl (hts w ((show ∀ w ∈ xFw, w ∈ lw_tbl by decide +kernel) w hw)), fun q hq => hsa q.1 q hq rfl⟩, va_Nc.of (hs (.not (.castable eIA eIO)) (by decide +kernel)), va_Nc.of (hs (.not (.castable eIS eIO)) (by decide +kernel)), va_Nc.of (hs (.not (.castable eIS eIA)) (by decide +kernel))⟩
