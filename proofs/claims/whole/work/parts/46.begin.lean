set_option maxHeartbeats 1000000 in
set_option maxRecDepth 100000 in
/-- from the entry to the loop's head -/
theorem law_begin {p : Program} (l : Launch) {e : Env} {s : State} {m : MethodId} {args : Array Value} {below : List Frame} {meth : Method} {c : Code} {A : Nat → Prop} {D : va_G} {tys : List (ClassId × FieldType)} {cI cZ cO cJ : ClassId} {mi e0 b : Nat} {Q : State → Prop} {ls : Array Slot} (hT0 : tys[0]? = some (cI, .int)) (hT1 : tys[1]? = some (cZ, .boolean)) (hT2 : tys[2]? = some (cO, .object "java/lang/Object")) (hT3 : tys[3]? = some (cJ, .long)) (E : xE mi e0 A s s.heap)
    (B : xB p s m args meth c cL_law 7 (some .boolean) wsL_law RL D sN (fun _ => 0) A tys) (hl : lv_has ls 7 [(0, .ref b)])
    (kk : ∀ (sh shm : xS) (ad adm : Nat → Nat) (V Vm : xV) (H : Heap) (locs : List Loc) (ls : Array Slot), xB p s m args meth c cL_law 7 (some .boolean) wsL_law RL D sh ad A tys → xG D sh ad A s.heap V H locs → xW D shm adm Vm H → xApart sh ad shm adm → xMm shm adm cI tys → (∀ (i : Nat) (mk : (Nat → Int32) → va_E), shm i = some mk → A (adm i)) → xDw sh ad cI cZ cO tys e0 0 (fun i => i) → sh 16 = some (oMk cJ) →
      V 0 0 = 0 → (∀ n, n < 8 → V 1 n = 4) → (∀ n, V 2 n = 0) → (∀ n, V 3 n = 0) → V 4 2 = 0 → V 5 2 = 0 → V 6 6 = 0 → (∀ i k, Vm i k = if i = 9 ∧ k < 8 then 4 else 0) →
      lv_has ls 7 [(0, .ref b), (1, .ref (ad 0)), (2, .ref (adm 17)), (3, .ref (ad 16)), (4, .int (nI 0))] → W p l e room_1 s m args below meth c H locs 1000 10000 Q (F0 m 23 ls [])) : W p l e room_1 s m args below meth c s.heap [] 0 0 Q (F0 m 0 ls []) := by
  have hx := B.1.1
  have hb := B.1.2.1
  have hcc : room_1.cells = 601024 := rfl
  have hcd : room_1.slots = 7293034 := rfl
  have G : xG D sN (fun _ => 0) A s.heap (fun _ _ => 0) s.heap [] := ⟨fun i mk h => (nomatch h), va_S.rf⟩
  refine x_newS B G 0 (C := RX2) (T := TX2) (N := 7) (ci := 5) (fun f => [.int (f 0), .null, .null, .null, .null, .null, .null]) rfl inlX2 tyX2 tyX2_ok (by decide +kernel) (by decide +kernel) (by decide +kernel) (fun j hj => by rcases (show j = 0 ∨ j = 1 ∨ j = 2 ∨ j = 3 ∨ j = 4 ∨ j = 5 ∨ j = 6 by omega) with rfl | rfl | rfl | rfl | rfl | rfl | rfl <;> rfl) (by omega) (by omega) dL_law_0 (fun q0 H G W0 hap hAq => ?_)
  refine lv_dup hx hb dL_law_3 rfl ?_
  refine x_callISub (rest := [.ref q0]) B E G W0 (fun i mk hi => hAq) hap (c_X2_init_w l hT0 hT1 hT2 q0) (cwI 0 B.1.2.2.2.2 gL_law_X2_init rfl rfl rfl (B.1.2.2.2.2 (.initialized RX2) (by decide +kernel)) (B.1.2.2.2.2 (.methodLink RL 78 yX2_init) (by decide +kernel)) (B.1.2.2.2.2 (.instanceMethod yX2_init) (by decide +kernel)) rfl (by decide +kernel) ⟨Nat.le_of_ble_eq_true rfl, Nat.le_of_ble_eq_true rfl⟩) rfl hl.1 rfl (Nat.le_of_ble_eq_true rfl) ⟨Nat.le_of_ble_eq_true rfl, Nat.le_of_ble_eq_true rfl⟩ dL_law_4 (fun v sh ad V H locs hR hI hA hap1 W1 G => ?_)
  obtain ⟨rfl, hDl, e_0, r4, r5, v0, v1, v2, v3, v4, v5, v6, hno⟩ := hR
  have B := xB.of B hI hA
  have G : xG D sh ad A s.heap V H locs := ⟨W1, G.2⟩
  have DW := xDw.start hDl r4 r5 hno
  refine W.eq (g2 := F0 m 7 ls [.ref (ad 0)]) (by rw [e_0]; rfl) ?_
  refine lv_astore_n (lv' := [(1, .ref (ad 0)), (0, .ref b)]) hx hb dL_law_7 rfl hl (by decide) rfl (fun ls hl => ?_)
  refine x_newS B G 17 (C := RX3) (T := TX3) (N := 21) (ci := 6) (fun f => [.null, .null, .null, .null, .null, .null, .null, .null, .null, .null, .null, .null, .null, .null, .null, .null, .null, .int (f 17), .int (f 18), .int (f 19), .int (f 20)]) rfl inlX3 tyX3 tyX3_ok (by decide +kernel) (by decide +kernel) (by decide +kernel) (fun j hj => by rcases (show j = 0 ∨ j = 1 ∨ j = 2 ∨ j = 3 ∨ j = 4 ∨ j = 5 ∨ j = 6 ∨ j = 7 ∨ j = 8 ∨ j = 9 ∨ j = 10 ∨ j = 11 ∨ j = 12 ∨ j = 13 ∨ j = 14 ∨ j = 15 ∨ j = 16 ∨ j = 17 ∨ j = 18 ∨ j = 19 ∨ j = 20 by omega) with rfl | rfl | rfl | rfl | rfl | rfl | rfl | rfl | rfl | rfl | rfl | rfl | rfl | rfl | rfl | rfl | rfl | rfl | rfl | rfl | rfl <;> rfl) (by show 0 + 1 + 12 + 1 ≤ 601024; decide) (by show 0 + 7 + 200 + 21 ≤ 7293034; decide) dL_law_8 (fun q8 H G W8 hap8 hAq8 => ?_)
  refine lv_dup hx hb dL_law_11 rfl ?_
  refine x_callISub (rest := [.ref q8]) B E G W8 (fun i mk hi => hAq8) hap8 (c_X3_init l hT0 q8) (cwI 0 B.1.2.2.2.2 gL_law_X3_init rfl rfl rfl (B.1.2.2.2.2 (.initialized RX3) (by decide +kernel)) (B.1.2.2.2.2 (.methodLink RL 81 yX3_init) (by decide +kernel)) (B.1.2.2.2.2 (.instanceMethod yX3_init) (by decide +kernel)) rfl (by decide +kernel) ⟨Nat.le_of_ble_eq_true rfl, Nat.le_of_ble_eq_true rfl⟩) rfl hl.1 rfl (Nat.le_of_ble_eq_true rfl) ⟨Nat.le_of_ble_eq_true rfl, Nat.le_of_ble_eq_true rfl⟩ dL_law_12 (fun v shm adm Vm H locs hR hIm hAm hapm Wm G => ?_)
  obtain ⟨rfl, Mm, e_17, hv⟩ := hR
  refine W.eq (g2 := F0 m 15 ls [.ref (adm 17)]) (by rw [e_17]; rfl) ?_
  refine lv_astore_n (lv' := [(2, .ref (adm 17)), (1, .ref (ad 0)), (0, .ref b)]) hx hb dL_law_15 rfl hl (by decide) rfl (fun ls hl => ?_)
  refine lv_iconst (v := 1) hx hb dL_law_16 (by decide) ?_
  refine x_newl B G (by decide +kernel) hT3 (by show 0 + 1 + 12 + 1 + 17 + 1 ≤ 601024; decide) (by show 0 + 7 + 200 + 21 + 1800 + 1 ≤ 7293034; decide) dL_law_17 (fun q17 H1 hq ho B1 G1 => ?_)
  have Wm1 : xW D shm adm Vm H1 := fun j mj hj => (Wm j mj hj).kept (ho _ (Wm j mj hj).lt)
  have hap2 : xApart (sU sh 16 (oMk cJ)) (aU ad 16 q17) shm adm := by
    intro i mk j mj hi hj z
    by_cases ei : i = 16
    · rw [ei, aU_s, hq] at z
      have := (Wm j mj hj).lt
      omega
    · rw [sU_n _ _ ei] at hi
      rw [aU_n _ _ ei] at z
      exact hapm i mk j mj hi hj z
  refine lv_astore_n (lv' := [(3, .ref q17), (2, .ref (adm 17)), (1, .ref (ad 0)), (0, .ref b)]) hx hb dL_law_19 rfl hl (by decide) rfl (fun ls hl => ?_)
  refine lv_iconst (v := 0) hx hb dL_law_20 (by decide) ?_
  refine lv_istore (lv' := [(4, .int 0), (3, .ref q17), (2, .ref (adm 17)), (1, .ref (ad 0)), (0, .ref b)]) hx hb dL_law_21 hl (by decide) rfl (fun ls hl => ?_)
  have hl := lv_sub (l' := [(0, .ref b), (1, .ref (ad 0)), (2, .ref (adm 17)), (3, .ref q17), (4, .int 0)]) hl [4, 3, 2, 1, 0] rfl
  have hl : lv_has ls 7 [(0, .ref b), (1, .ref (aU ad 16 q17 0)), (2, .ref (adm 17)), (3, .ref (aU ad 16 q17 16)), (4, .int (nI 0))] := lv_cast hl (by rw [aU_s, aU_n _ _ (show 0 ≠ 16 by decide)]; rfl)
  refine W.widen (k := 1000) (n := 10000) (by show 0 + 1 + 12 + 1 + 17 + 1 ≤ 1000; decide) (by show 0 + 7 + 200 + 21 + 1800 + 1 ≤ 10000; decide) ?_
  exact kk _ shm _ adm _ Vm H1 locs ls B1 G1 Wm1 hap2 Mm hAm (DW.out B1.2.2.2.2.1 rfl) (sU_s _ _ _) ((congrFun (vU_n _ _ (by decide)) 0).trans v0) (fun n hn => (congrFun (vU_n _ _ (by decide)) n).trans (v1 n hn)) (fun n => (congrFun (vU_n _ _ (by decide)) n).trans (v2 n)) (fun n => (congrFun (vU_n _ _ (by decide)) n).trans (v3 n)) ((congrFun (vU_n _ _ (by decide)) 2).trans v4) ((congrFun (vU_n _ _ (by decide)) 2).trans v5) ((congrFun (vU_n _ _ (by decide)) 6).trans v6) hv hl
