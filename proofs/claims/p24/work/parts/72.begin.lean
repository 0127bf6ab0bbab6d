/-! THE LAW: from its entry to its loop -/
theorem INV_0 {V : xV} {S : Nat → Nat} (v0 : V 0 0 = 0) (v1 : ∀ n, n < 8 → V 1 n = 4) (v4 : V 4 2 = 0) (v5 : V 5 2 = 0) (v6 : V 6 6 = 0) : INV 0 0 0 (fun i => i) S V :=
  ⟨⟨v4, v5, Nat.zero_le _⟩, ⟨v6, Nat.zero_le _, fun k hk => absurd hk (Nat.not_lt_zero k)⟩, List.Perm.refl _, 0, Nat.le_refl _, v0, fun k hk => absurd hk (Nat.not_lt_zero k), fun n hn => ⟨4, by decide, by decide, v1 n hn, Nat.zero_le _⟩⟩
set_option maxHeartbeats 4000000 in
set_option maxRecDepth 100000 in
theorem law_places {p : Program} {l : Launch} {e : Env} {s : State} {m : MethodId} {args : Array Value} {below : List Frame} {meth : Method} {c : Code} {A : Nat → Prop} {D : va_G} {cI cZ cO : ClassId} {tys : List (ClassId × FieldType)} {e0 : Nat} {b : Nat} {Q : State → Prop} {sh : xS} {ad : Nat → Nat} {V : xV} {H : Heap} {locs : List Loc} {ls : Array Slot} (B : xB p s m args meth c cL_law 10 (some .boolean) wsL_law RL D sh ad A tys) (G : xG D sh ad A s.heap V H locs) (DW : xDw sh ad cI cZ cO tys e0 0 (fun i => i)) (v0 : V 0 0 = 0) (v1 : ∀ n, n < 8 → V 1 n = 4) (v4 : V 4 2 = 0) (v5 : V 5 2 = 0) (v6 : V 6 6 = 0) (s16 : sh 16 = some (iA cI 40)) (s17 : sh 17 = some (iA cI 8)) (hl : lv_has ls 10 [(0, .ref b), (1, .ref (ad 0)), (2, .ref (ad 16)), (3, .ref (ad 17))])
    (cont : ∀ (V : xV) (H : Heap) (locs : List Loc) (ls : Array Slot), LwS cI cZ cO tys e0 0 0 0 (fun i => i) (fun _ => 0) sh ad V → xG D sh ad A s.heap V H locs → lv_has ls 10 [(0, .ref b), (1, .ref (ad 0)), (2, .ref (ad 16)), (3, .ref (ad 17)), (4, .int 0)] → W p l e room_1 s m args below meth c H locs (1000) (10000) Q (F0 m 42 ls [])) : W p l e room_1 s m args below meth c H locs (1000) (10000) Q (F0 m 18 ls []) := by
  have hx := B.1.1
  have hb := B.1.2.1
  have hT0 := DW.dl.2.2.2.2.2.2.1.1
  refine lv_iconst (v := 0) hx hb dL_law_18 (by decide) ?_
  refine lv_istore (lv' := [(4, .int 0), (0, .ref b), (1, .ref (ad 0)), (2, .ref (ad 16)), (3, .ref (ad 17))]) hx hb dL_law_19 hl (by decide) rfl (fun ls hl => ?_)
  have loop_21 : ∀ (f n : Nat), n ≤ 8 → 8 < n + f → ∀ (H : Heap) (locs : List Loc) (ls : Array Slot), xG D sh ad A s.heap (cFill V 17 4 n) H locs → lv_has ls 10 [(0, .ref b), (1, .ref (ad 0)), (2, .ref (ad 16)), (3, .ref (ad 17)), (4, .int (nI n))] → W p l e (room_1) s m args below meth c H locs 1000 10000 Q (F0 m 21 ls []) := by
    intro f
    induction f with
    | zero => intro n h1 h2; exact absurd h2 (by omega)
    | succ f ih_21 =>
      intro n hi hf H locs ls G hl
      refine lv_iload hx hb dL_law_21 (lv_at hl 4 rfl) ?_
      refine lv_bipush (v := 8) hx hb dL_law_23 (by decide) ?_
      refine lv_icmp_ge (tgt := 39) hx hb dL_law_25 (by decide) (fun c_25 => ?_) (fun c_25 => ?_)
      · skip
        have c_25 : 8 ≤ n := (nI_leI (a := 8) (b := n) (by omega) (by omega)).mp c_25
        have e_n : n = 8 := by omega
        subst e_n
        refine lv_iconst (v := 0) hx hb dL_law_39 (by decide) ?_
        refine lv_istore (lv' := [(4, .int 0), (0, .ref b), (1, .ref (ad 0)), (2, .ref (ad 16)), (3, .ref (ad 17))]) hx hb dL_law_40 hl (by decide) rfl (fun ls hl => ?_)
        have hl := lv_sub (l' := [(0, .ref b), (1, .ref (ad 0)), (2, .ref (ad 16)), (3, .ref (ad 17)), (4, .int 0)]) hl [1, 2, 3, 4, 0] rfl
        exact cont _ H locs ls ⟨DW, INV_0 (by rw [cFill_o _ _ _ _ (by decide)]; exact v0) (fun n hn => by rw [cFill_o _ _ _ _ (by decide)]; exact v1 n hn) (by rw [cFill_o _ _ _ _ (by decide)]; exact v4) (by rw [cFill_o _ _ _ _ (by decide)]; exact v5) (by rw [cFill_o _ _ _ _ (by decide)]; exact v6), s16, s17, fun k hk => absurd hk (Nat.not_lt_zero k), fun n hn => by rw [cFill_s, if_pos hn, cFill_o _ _ _ _ (by decide)]; exact (v1 n hn).symm⟩ G hl
      · skip
        have c_25 : ¬ (8 ≤ n) := fun h9 => c_25 ((nI_leI (a := 8) (b := n) (by omega) (by omega)).mpr h9)
        refine lv_aload_n hx hb dL_law_28 rfl (lv_at hl 3 rfl) ?_
        refine lv_iload hx hb dL_law_29 (lv_at hl 4 rfl) ?_
        refine lv_iconst (v := 4) hx hb dL_law_31 (by decide) ?_
        refine x_ast B G 17 s17 0 hT0 n (show n < 8 from by omega) rfl (by decide) dL_law_32 (fun H locs G => ?_)
        refine lv_iinc (v := nI (n + 1)) (lv' := [(4, .int (nI (n + 1))), (0, .ref b), (1, .ref (ad 0)), (2, .ref (ad 16)), (3, .ref (ad 17))]) hx hb dL_law_33 hl (k := 4) rfl (nI_add n 1) (by decide) rfl (fun ls hl => ?_)
        refine lv_goto (tgt := 21) hx hb dL_law_36 (by decide) ?_
        have hl := lv_sub (l' := [(0, .ref b), (1, .ref (ad 0)), (2, .ref (ad 16)), (3, .ref (ad 17)), (4, .int (nI (n + 1)))]) hl [1, 2, 3, 4, 0] rfl
        have eV : xu (cFill V 17 4 n) 17 n 4 = cFill V 17 4 (n + 1) := rfl
        rw [eV] at G
        exact ih_21 (n + 1) (by omega) (by omega) _ _ _ G hl
  have hl := lv_sub (l' := [(0, .ref b), (1, .ref (ad 0)), (2, .ref (ad 16)), (3, .ref (ad 17)), (4, .int 0)]) hl [1, 2, 3, 4, 0] rfl
  have hl := lv_cast hl (congrArg (fun z : Int32 => ([(0, .ref b), (1, .ref (ad 0)), (2, .ref (ad 16)), (3, .ref (ad 17)), (4, .int z)] : List (Nat × Value))) (show 0 = (nI 0) from rfl))
  have eV : V = cFill V 17 4 0 := rfl
  rw [eV] at G
  exact loop_21 (8 + 1) 0 (by omega) (by omega) _ _ _ G hl
set_option maxHeartbeats 4000000 in
set_option maxRecDepth 100000 in
theorem law_begin {p : Program} (l : Launch) {e : Env} {s : State} {m : MethodId} {args : Array Value} {below : List Frame} {meth : Method} {c : Code} {A : Nat → Prop} {D : va_G} {tys : List (ClassId × FieldType)} {cI cZ cO : ClassId} {mi e0 b : Nat} {Q : State → Prop} {ls : Array Slot} (hT0 : tys[0]? = some (cI, .int)) (hT1 : tys[1]? = some (cZ, .boolean)) (hT2 : tys[2]? = some (cO, .object "java/lang/Object")) (E : xE mi e0 A s s.heap)
    (B : xB p s m args meth c cL_law 10 (some .boolean) wsL_law RL D sN (fun _ => 0) A tys) (hl : lv_has ls 10 [(0, .ref b)])
    (cont : ∀ (sh : xS) (ad : Nat → Nat) (V : xV) (H : Heap) (locs : List Loc) (ls : Array Slot), LwS cI cZ cO tys e0 0 0 0 (fun i => i) (fun _ => 0) sh ad V → xB p s m args meth c cL_law 10 (some .boolean) wsL_law RL D sh ad A tys → xG D sh ad A s.heap V H locs → lv_has ls 10 [(0, .ref b), (1, .ref (ad 0)), (2, .ref (ad 16)), (3, .ref (ad 17)), (4, .int (nI 0))] → W p l e room_1 s m args below meth c H locs 1000 10000 Q (F0 m 42 ls [])) : W p l e room_1 s m args below meth c s.heap [] 0 0 Q (F0 m 0 ls []) := by
  have hx := B.1.1
  have hb := B.1.2.1
  have rc : room_1.cells = 600086 := rfl
  have rs : room_1.slots = 7301442 := rfl
  have G : xG D sN (fun _ => 0) A s.heap (fun _ _ => 0) s.heap [] := ⟨fun i mk h => (nomatch h), va_S.rf⟩
  refine x_newS B G 0 (C := RX2) (T := TX2) (N := 7) (ci := 5) (fun f => [.int (f 0), .null, .null, .null, .null, .null, .null]) rfl inlX2 tyX2 tyX2_ok (by decide +kernel) (by decide +kernel) (by decide +kernel) (fun j hj => by rcases (show j = 0 ∨ j = 1 ∨ j = 2 ∨ j = 3 ∨ j = 4 ∨ j = 5 ∨ j = 6 by omega) with rfl | rfl | rfl | rfl | rfl | rfl | rfl <;> rfl) (by omega) (by omega) dL_law_0 (fun q0 H G W0 hap hAq => ?_)
  refine lv_dup hx hb dL_law_3 rfl ?_
  refine x_callISub (rest := [.ref q0]) B E G W0 (fun i mk hi => hAq) hap (c_X2_init_w l hT0 hT1 hT2 q0) (cwI 0 B.1.2.2.2.2 gL_law_X2_init rfl rfl rfl (B.1.2.2.2.2 (.initialized RX2) (by decide +kernel)) (B.1.2.2.2.2 (.methodLink RL 119 yX2_init) (by decide +kernel)) (B.1.2.2.2.2 (.instanceMethod yX2_init) (by decide +kernel)) rfl (by decide +kernel) ⟨Nat.le_of_ble_eq_true rfl, Nat.le_of_ble_eq_true rfl⟩) rfl hl.1 rfl (Nat.le_of_ble_eq_true rfl) ⟨Nat.le_of_ble_eq_true rfl, Nat.le_of_ble_eq_true rfl⟩ dL_law_4 (fun v sh ad V H locs hR hI hA hap1 W1 G => ?_)
  obtain ⟨rfl, hDl, e_0, r4, r5, v0, v1, v2, v3, v4, v5, v6, hno⟩ := hR
  have B := xB.of B hI hA
  have G : xG D sh ad A s.heap V H locs := ⟨W1, G.2⟩
  have DW := xDw.start hDl r4 r5 hno
  refine W.eq (g2 := F0 m 7 ls [.ref (ad 0)]) (by rw [e_0]; rfl) ?_
  refine lv_astore_n (lv' := [(1, .ref (ad 0)), (0, .ref b)]) hx hb dL_law_7 rfl hl (by decide) rfl (fun ls hl => ?_)
  refine lv_bipush (v := 40) hx hb dL_law_8 (by decide) ?_
  refine x_newa B G 16 .int (atype := .int) rfl rfl (by decide +kernel) 0 hT0 (fun _ _ h => h) (N := 40) (by decide) rfl (by decide) (Nat.le_of_ble_eq_true rfl) (Nat.le_of_ble_eq_true rfl) dL_law_10 (fun q1 H B1 G1 => ?_)
  refine lv_astore_n (lv' := [(2, .ref q1), (1, .ref (ad 0)), (0, .ref b)]) hx hb dL_law_12 rfl hl (by decide) rfl (fun ls hl => ?_)
  refine lv_bipush (v := 8) hx hb dL_law_13 (by decide) ?_
  refine x_newa B1 G1 17 .int (atype := .int) rfl rfl (by decide +kernel) 0 hT0 (fun _ _ h => h) (N := 8) (by decide) rfl (by decide) (Nat.le_of_ble_eq_true rfl) (Nat.le_of_ble_eq_true rfl) dL_law_15 (fun q2 H B2 G2 => ?_)
  refine lv_astore_n (lv' := [(3, .ref q2), (2, .ref q1), (1, .ref (ad 0)), (0, .ref b)]) hx hb dL_law_17 rfl hl (by decide) rfl (fun ls hl => ?_)
  obtain ⟨sh9, hs9⟩ : ∃ z : xS, z = sU (sU sh 16 (fun f => .inl (cI, 40, .inl f))) 17 (fun f => .inl (cI, 8, .inl f)) := ⟨_, rfl⟩
  obtain ⟨ad9, ha9⟩ : ∃ z : Nat → Nat, z = aU (aU ad 16 q1) 17 q2 := ⟨_, rfl⟩
  obtain ⟨V9, hv9⟩ : ∃ z : xV, z = vU (vU V 16 (fun _ => 0)) 17 (fun _ => 0) := ⟨_, rfl⟩
  rw [← hs9, ← ha9] at B2
  rw [← hs9, ← ha9, ← hv9] at G2
  have ks : ∀ j, j ≠ 16 → j ≠ 17 → sh9 j = sh j := fun j h1 h2 => by rw [hs9, sU_n _ _ h2, sU_n _ _ h1]
  have ka : ∀ j, j ≠ 16 → j ≠ 17 → ad9 j = ad j := fun j h1 h2 => by rw [ha9, aU_n _ _ h2, aU_n _ _ h1]
  have kv : ∀ j, j ≠ 16 → j ≠ 17 → V9 j = V j := fun j h1 h2 => by rw [hv9, vU_n _ _ h2, vU_n _ _ h1]
  have a16 : ad9 16 = q1 := by rw [ha9, aU_n _ _ (by decide), aU_s]
  have a17 : ad9 17 = q2 := by rw [ha9, aU_s]
  have s16 : sh9 16 = some (iA cI 40) := by rw [hs9, sU_n _ _ (by decide), sU_s]
  have s17 : sh9 17 = some (iA cI 8) := by rw [hs9, sU_s]
  have DW9 := DW.law (fun j hj => ks j (by omega) (by omega)) (fun j hj => ka j (by omega) (by omega)) B2.2.2.2.2.1
  have hl := lv_sub (l' := [(0, .ref b), (1, .ref (ad 0)), (2, .ref q1), (3, .ref q2)]) hl [3, 2, 1, 0] rfl
  have hl : lv_has ls 10 [(0, .ref b), (1, .ref (ad9 0)), (2, .ref (ad9 16)), (3, .ref (ad9 17))] := lv_cast hl (by rw [ka 0 (by decide) (by decide), a16, a17])
  refine W.widen (k := 1000) (n := 10000) (by decide) (by decide) ?_
  exact law_places B2 G2 DW9 (by rw [kv 0 (by decide) (by decide)]; exact v0) (fun n hn => by rw [kv 1 (by decide) (by decide)]; exact v1 n hn) (by rw [kv 4 (by decide) (by decide)]; exact v4) (by rw [kv 5 (by decide) (by decide)]; exact v5) (by rw [kv 6 (by decide) (by decide)]; exact v6) s16 s17 hl (fun V H locs ls hL G hl => cont sh9 ad9 V H locs ls hL B2 G hl)
