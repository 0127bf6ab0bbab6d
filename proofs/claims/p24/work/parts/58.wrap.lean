/-! THE WRAPPERS: a table that catches; -2, -3, -4 for the three exceptions -/
set_option maxHeartbeats 1000000 in
set_option maxRecDepth 100000 in
theorem w_end_bad (l : Launch) (hst : l.stackTraces = false) {D : va_G} {sh : xS} {ad : Nat → Nat} {cI cZ cO : ClassId} {tys : List (ClassId × FieldType)} {mi e0 : Nat} {sa : Nat → Nat} {nb : Nat} {od : Nat → Nat} (DW : xDw sh ad cI cZ cO tys e0 nb od) (V : xV) (h4 : V 4 2 = nI nb) (h5 : V 5 2 = nI nb) (x : Int32) (h : ¬ (0 ≤ x ∧ x < nI nb)) : xMw l yL_end wsL_end D sh ad tys mi e0 sa V [.ref (ad 0), .int x] (fun v sh' ad' V' => v = some (.int (-2)) ∧ sh' = sh ∧ ad' = ad ∧ V' = V) := by
  have DL := DW.dl
  refine xOfw (cc := cL_end) (nL := 3) (ret := some .int) (hh := [(0, 5, 6, 15)]) (own := RL) (by decide) rfl rfl (Nat.le_of_ble_eq_true rfl) DL.2.2.2.2.2.2.1.2.2 ?_
  intro p e s m args below meth c A ls hA htab B E F hN G hl
  have hx := B.1.1
  have hb := B.1.2.1
  have hl : lv_has ls 3 [(0, .ref (ad 0)), (1, .int x)] := hl
  refine lv_aload_n hx hb dL_end_0 rfl (lv_at hl 0 rfl) ?_
  refine lv_iload_n hx hb dL_end_1 rfl (lv_at hl 1 rfl) ?_
  refine x_callVc (rest := []) B F G (c_X2_endOf_bad l hst DL V h4 h5 x h) (cwV 1 B.1.2.2.2.2 gL_end_X2_endOf rfl rfl rfl (by decide +kernel) ⟨Nat.le_of_ble_eq_true rfl, Nat.le_of_ble_eq_true rfl⟩) (d_recv B G DL.1) rfl hl.1 rfl (Nat.le_of_ble_eq_true rfl) ⟨Nat.le_of_ble_eq_true rfl, Nat.le_of_ble_eq_true rfl⟩ dL_end_2 [] ⟨0, 5, 6, 15⟩ [] htab (fun z hz => nomatch hz) (by decide) (by decide) (by decide +kernel) (by decide +kernel) (fun q9 H locs G => ?_)
  refine lv_astore_n (lv' := [(2, .ref q9), (0, .ref (ad 0)), (1, .int x)]) hx hb dL_end_6 rfl hl (by decide) rfl (fun ls hl => ?_)
  refine lv_bipush (v := (-2)) hx hb dL_end_7 (by decide) ?_
  exact vx_ret (x_aendi hA B G (⟨rfl, rfl, rfl, rfl⟩) (by decide) (by decide) dL_end_9)
set_option maxHeartbeats 1000000 in
set_option maxRecDepth 100000 in
theorem w_at_ok (l : Launch) {D : va_G} {sh : xS} {ad : Nat → Nat} {cI cZ cO : ClassId} {tys : List (ClassId × FieldType)} {mi e0 : Nat} {sa : Nat → Nat} {nb : Nat} {od : Nat → Nat} (DW : xDw sh ad cI cZ cO tys e0 nb od) (V : xV) (h4 : V 4 2 = nI nb) (h5 : V 5 2 = nI nb) (n j : Nat) (x : Int32) (hn : n < 8) (hj : j < nb) (hjP : 0 < V (20 + 4 * od j + 1) n) (hjx : nI (cntP (cHasO V od n) j) = x) : xMw l yL_at wsL_at D sh ad tys mi e0 sa V [.ref (ad 0), .int (nI n), .int x] (fun v sh' ad' V' => v = some (.int (V (20 + 4 * od j) 0)) ∧ sh' = sh ∧ ad' = ad ∧ V' = V) := by
  have DL := DW.dl
  refine xOfw (cc := cL_at) (nL := 4) (ret := some .int) (hh := [(0, 6, 7, 15)]) (own := RL) (by decide) rfl rfl (Nat.le_of_ble_eq_true rfl) DL.2.2.2.2.2.2.1.2.2 ?_
  intro p e s m args below meth c A ls hA htab B E F hN G hl
  have hx := B.1.1
  have hb := B.1.2.1
  have hl : lv_has ls 4 [(0, .ref (ad 0)), (1, .int (nI n)), (2, .int x)] := hl
  refine lv_aload_n hx hb dL_at_0 rfl (lv_at hl 0 rfl) ?_
  refine lv_iload_n hx hb dL_at_1 rfl (lv_at hl 1 rfl) ?_
  refine lv_iload_n hx hb dL_at_2 rfl (lv_at hl 2 rfl) ?_
  refine x_callVi (rest := []) B G (c_X2_heldAt_ok l DL V h4 h5 n j x hn hj hjP hjx) (cwV 2 B.1.2.2.2.2 gL_at_X2_heldAt rfl rfl rfl (by decide +kernel) ⟨Nat.le_of_ble_eq_true rfl, Nat.le_of_ble_eq_true rfl⟩) (d_recv B G DL.1) rfl hl.1 rfl (Nat.le_of_ble_eq_true rfl) ⟨Nat.zero_le _, Nat.zero_le _⟩ dL_at_3 (fun H locs G => ?_)
  exact vx_ret (x_aendi hA B G (⟨rfl, rfl, rfl, rfl⟩) (by decide) (by decide) dL_at_6)
set_option maxHeartbeats 1000000 in
set_option maxRecDepth 100000 in
theorem w_at_bad2 (l : Launch) (hst : l.stackTraces = false) {D : va_G} {sh : xS} {ad : Nat → Nat} {cI cZ cO : ClassId} {tys : List (ClassId × FieldType)} {mi e0 : Nat} {sa : Nat → Nat} {nb : Nat} {od : Nat → Nat} (DW : xDw sh ad cI cZ cO tys e0 nb od) (V : xV) (h4 : V 4 2 = nI nb) (h5 : V 5 2 = nI nb) (n : Nat) (x : Int32) (hn : n < 8) (hno : ∀ i, i < nb → 0 < V (20 + 4 * od i + 1) n → ¬ nI (cntP (cHasO V od n) i) = x) : xMw l yL_at wsL_at D sh ad tys mi e0 sa V [.ref (ad 0), .int (nI n), .int x] (fun v sh' ad' V' => v = some (.int (-2)) ∧ sh' = sh ∧ ad' = ad ∧ V' = V) := by
  have DL := DW.dl
  refine xOfw (cc := cL_at) (nL := 4) (ret := some .int) (hh := [(0, 6, 7, 15)]) (own := RL) (by decide) rfl rfl (Nat.le_of_ble_eq_true rfl) DL.2.2.2.2.2.2.1.2.2 ?_
  intro p e s m args below meth c A ls hA htab B E F hN G hl
  have hx := B.1.1
  have hb := B.1.2.1
  have hl : lv_has ls 4 [(0, .ref (ad 0)), (1, .int (nI n)), (2, .int x)] := hl
  refine lv_aload_n hx hb dL_at_0 rfl (lv_at hl 0 rfl) ?_
  refine lv_iload_n hx hb dL_at_1 rfl (lv_at hl 1 rfl) ?_
  refine lv_iload_n hx hb dL_at_2 rfl (lv_at hl 2 rfl) ?_
  refine x_callVc (rest := []) B F G (c_X2_heldAt_bad2 l hst DL V h4 h5 n x hn hno) (cwV 2 B.1.2.2.2.2 gL_at_X2_heldAt rfl rfl rfl (by decide +kernel) ⟨Nat.le_of_ble_eq_true rfl, Nat.le_of_ble_eq_true rfl⟩) (d_recv B G DL.1) rfl hl.1 rfl (Nat.le_of_ble_eq_true rfl) ⟨Nat.le_of_ble_eq_true rfl, Nat.le_of_ble_eq_true rfl⟩ dL_at_3 [] ⟨0, 6, 7, 15⟩ [] htab (fun z hz => nomatch hz) (by decide) (by decide) (by decide +kernel) (by decide +kernel) (fun q9 H locs G => ?_)
  refine lv_astore_n (lv' := [(3, .ref q9), (0, .ref (ad 0)), (1, .int (nI n)), (2, .int x)]) hx hb dL_at_7 rfl hl (by decide) rfl (fun ls hl => ?_)
  refine lv_bipush (v := (-2)) hx hb dL_at_8 (by decide) ?_
  exact vx_ret (x_aendi hA B G (⟨rfl, rfl, rfl, rfl⟩) (by decide) (by decide) dL_at_10)
set_option maxHeartbeats 1000000 in
set_option maxRecDepth 100000 in
theorem w_pass_ok (l : Launch) {D : va_G} {sh : xS} {ad : Nat → Nat} {cI cZ cO : ClassId} {tys : List (ClassId × FieldType)} {mi e0 : Nat} {sa : Nat → Nat} {nb : Nat} {od : Nat → Nat} (DW : xDw sh ad cI cZ cO tys e0 nb od) (V : xV) (h4 : V 4 2 = nI nb) (h5 : V 5 2 = nI nb) (x : Int32) (h : 1 ≤ x ∧ x ≤ 10000) : xMw l yL_pass wsL_pass D sh ad tys mi e0 sa V [.ref (ad 0), .int x] (fun v sh' ad' V' => v = some (.int (nI (cntP (cGone (xu V 0 0 (V 0 0 + x)) (V 0 0) (V 0 0 + x)) nb))) ∧ sh' = sh ∧ ad' = ad ∧ V' = cPass (xu V 0 0 (V 0 0 + x)) (V 0 0) (V 0 0 + x) nb) := by
  have DL := DW.dl
  refine xOfw (cc := cL_pass) (nL := 3) (ret := some .int) (hh := [(0, 5, 6, 17)]) (own := RL) (by decide) rfl rfl (Nat.le_of_ble_eq_true rfl) DL.2.2.2.2.2.2.1.2.2 ?_
  intro p e s m args below meth c A ls hA htab B E F hN G hl
  have hx := B.1.1
  have hb := B.1.2.1
  have hl : lv_has ls 3 [(0, .ref (ad 0)), (1, .int x)] := hl
  refine lv_aload_n hx hb dL_pass_0 rfl (lv_at hl 0 rfl) ?_
  refine lv_iload_n hx hb dL_pass_1 rfl (lv_at hl 1 rfl) ?_
  refine x_callVi (rest := []) B G (c_X2_pass_ok l DL V h4 h5 x h) (cwV 1 B.1.2.2.2.2 gL_pass_X2_pass rfl rfl rfl (by decide +kernel) ⟨Nat.le_of_ble_eq_true rfl, Nat.le_of_ble_eq_true rfl⟩) (d_recv B G DL.1) rfl hl.1 rfl (Nat.le_of_ble_eq_true rfl) ⟨Nat.zero_le _, Nat.zero_le _⟩ dL_pass_2 (fun H locs G => ?_)
  exact vx_ret (x_aendi hA B G (⟨rfl, rfl, rfl, rfl⟩) (by decide) (by decide) dL_pass_5)
set_option maxHeartbeats 1000000 in
set_option maxRecDepth 100000 in
theorem w_pass_bad (l : Launch) (hst : l.stackTraces = false) {D : va_G} {sh : xS} {ad : Nat → Nat} {cI cZ cO : ClassId} {tys : List (ClassId × FieldType)} {mi e0 : Nat} {sa : Nat → Nat} {nb : Nat} {od : Nat → Nat} (DW : xDw sh ad cI cZ cO tys e0 nb od) (V : xV) (h4 : V 4 2 = nI nb) (h5 : V 5 2 = nI nb) (x : Int32) (h : ¬ (1 ≤ x ∧ x ≤ 10000)) : xMw l yL_pass wsL_pass D sh ad tys mi e0 sa V [.ref (ad 0), .int x] (fun v sh' ad' V' => v = some (.int (-3)) ∧ sh' = sh ∧ ad' = ad ∧ V' = V) := by
  have DL := DW.dl
  refine xOfw (cc := cL_pass) (nL := 3) (ret := some .int) (hh := [(0, 5, 6, 17)]) (own := RL) (by decide) rfl rfl (Nat.le_of_ble_eq_true rfl) DL.2.2.2.2.2.2.1.2.2 ?_
  intro p e s m args below meth c A ls hA htab B E F hN G hl
  have hx := B.1.1
  have hb := B.1.2.1
  have hl : lv_has ls 3 [(0, .ref (ad 0)), (1, .int x)] := hl
  refine lv_aload_n hx hb dL_pass_0 rfl (lv_at hl 0 rfl) ?_
  refine lv_iload_n hx hb dL_pass_1 rfl (lv_at hl 1 rfl) ?_
  refine x_callVc (rest := []) B F G (c_X2_pass_bad l hst DL V h4 h5 x h) (cwV 1 B.1.2.2.2.2 gL_pass_X2_pass rfl rfl rfl (by decide +kernel) ⟨Nat.le_of_ble_eq_true rfl, Nat.le_of_ble_eq_true rfl⟩) (d_recv B G DL.1) rfl hl.1 rfl (Nat.le_of_ble_eq_true rfl) ⟨Nat.le_of_ble_eq_true rfl, Nat.le_of_ble_eq_true rfl⟩ dL_pass_2 [] ⟨0, 5, 6, 17⟩ [] htab (fun z hz => nomatch hz) (by decide) (by decide) (by decide +kernel) (by decide +kernel) (fun q9 H locs G => ?_)
  refine lv_astore_n (lv' := [(2, .ref q9), (0, .ref (ad 0)), (1, .int x)]) hx hb dL_pass_6 rfl hl (by decide) rfl (fun ls hl => ?_)
  refine lv_bipush (v := (-3)) hx hb dL_pass_7 (by decide) ?_
  exact vx_ret (x_aendi hA B G (⟨rfl, rfl, rfl, rfl⟩) (by decide) (by decide) dL_pass_9)
set_option maxHeartbeats 1000000 in
set_option maxRecDepth 100000 in
theorem w_buffer_ok (l : Launch) {D : va_G} {sh : xS} {ad : Nat → Nat} {cI cZ cO : ClassId} {tys : List (ClassId × FieldType)} {mi e0 : Nat} {sa : Nat → Nat} {nb : Nat} {od : Nat → Nat} (DW : xDw sh ad cI cZ cO tys e0 nb od) (V : xV) (h4 : V 4 2 = nI nb) (h5 : V 5 2 = nI nb) (n : Nat) (y : Int32) (hn : n < 8) (h1 : 1 ≤ y ∧ y ≤ 8) (h : nI (cntP (cHas V n) nb) ≤ y) : xMw l yL_buffer wsL_buffer D sh ad tys mi e0 sa V [.ref (ad 0), .int (nI n), .int y] (fun v sh' ad' V' => v = some (.int (V 1 n)) ∧ sh' = sh ∧ ad' = ad ∧ V' = xu V 1 n y) := by
  have DL := DW.dl
  refine xOfw (cc := cL_buffer) (nL := 4) (ret := some .int) (hh := [(0, 6, 7, 15), (0, 6, 11, 17), (0, 6, 15, 19)]) (own := RL) (by decide) rfl rfl (Nat.le_of_ble_eq_true rfl) DL.2.2.2.2.2.2.1.2.2 ?_
  intro p e s m args below meth c A ls hA htab B E F hN G hl
  have hx := B.1.1
  have hb := B.1.2.1
  have hl : lv_has ls 4 [(0, .ref (ad 0)), (1, .int (nI n)), (2, .int y)] := hl
  refine lv_aload_n hx hb dL_buffer_0 rfl (lv_at hl 0 rfl) ?_
  refine lv_iload_n hx hb dL_buffer_1 rfl (lv_at hl 1 rfl) ?_
  refine lv_iload_n hx hb dL_buffer_2 rfl (lv_at hl 2 rfl) ?_
  refine x_callVi (rest := []) B G (c_X2_setBuffer_ok l DL V h4 h5 n y hn h1 h) (cwV 2 B.1.2.2.2.2 gL_buffer_X2_setBuffer rfl rfl rfl (by decide +kernel) ⟨Nat.le_of_ble_eq_true rfl, Nat.le_of_ble_eq_true rfl⟩) (d_recv B G DL.1) rfl hl.1 rfl (Nat.le_of_ble_eq_true rfl) ⟨Nat.zero_le _, Nat.zero_le _⟩ dL_buffer_3 (fun H locs G => ?_)
  exact vx_ret (x_aendi hA B G (⟨rfl, rfl, rfl, rfl⟩) (by decide) (by decide) dL_buffer_6)
set_option maxHeartbeats 1000000 in
set_option maxRecDepth 100000 in
theorem w_buffer_bad1 (l : Launch) (hst : l.stackTraces = false) {D : va_G} {sh : xS} {ad : Nat → Nat} {cI cZ cO : ClassId} {tys : List (ClassId × FieldType)} {mi e0 : Nat} {sa : Nat → Nat} {nb : Nat} {od : Nat → Nat} (DW : xDw sh ad cI cZ cO tys e0 nb od) (V : xV) (h4 : V 4 2 = nI nb) (h5 : V 5 2 = nI nb) (x y : Int32) (h : ¬ (0 ≤ x ∧ x ≤ 7)) : xMw l yL_buffer wsL_buffer D sh ad tys mi e0 sa V [.ref (ad 0), .int x, .int y] (fun v sh' ad' V' => v = some (.int (-2)) ∧ sh' = sh ∧ ad' = ad ∧ V' = V) := by
  have DL := DW.dl
  refine xOfw (cc := cL_buffer) (nL := 4) (ret := some .int) (hh := [(0, 6, 7, 15), (0, 6, 11, 17), (0, 6, 15, 19)]) (own := RL) (by decide) rfl rfl (Nat.le_of_ble_eq_true rfl) DL.2.2.2.2.2.2.1.2.2 ?_
  intro p e s m args below meth c A ls hA htab B E F hN G hl
  have hx := B.1.1
  have hb := B.1.2.1
  have hl : lv_has ls 4 [(0, .ref (ad 0)), (1, .int x), (2, .int y)] := hl
  refine lv_aload_n hx hb dL_buffer_0 rfl (lv_at hl 0 rfl) ?_
  refine lv_iload_n hx hb dL_buffer_1 rfl (lv_at hl 1 rfl) ?_
  refine lv_iload_n hx hb dL_buffer_2 rfl (lv_at hl 2 rfl) ?_
  refine x_callVc (rest := []) B F G (c_X2_setBuffer_bad1 l hst DL V h4 h5 x y h) (cwV 2 B.1.2.2.2.2 gL_buffer_X2_setBuffer rfl rfl rfl (by decide +kernel) ⟨Nat.le_of_ble_eq_true rfl, Nat.le_of_ble_eq_true rfl⟩) (d_recv B G DL.1) rfl hl.1 rfl (Nat.le_of_ble_eq_true rfl) ⟨Nat.le_of_ble_eq_true rfl, Nat.le_of_ble_eq_true rfl⟩ dL_buffer_3 [] ⟨0, 6, 7, 15⟩ [⟨0, 6, 11, 17⟩, ⟨0, 6, 15, 19⟩] htab (fun z hz => nomatch hz) (by decide) (by decide) (by decide +kernel) (by decide +kernel) (fun q9 H locs G => ?_)
  refine lv_astore_n (lv' := [(3, .ref q9), (0, .ref (ad 0)), (1, .int x), (2, .int y)]) hx hb dL_buffer_7 rfl hl (by decide) rfl (fun ls hl => ?_)
  refine lv_bipush (v := (-2)) hx hb dL_buffer_8 (by decide) ?_
  exact vx_ret (x_aendi hA B G (⟨rfl, rfl, rfl, rfl⟩) (by decide) (by decide) dL_buffer_10)
set_option maxHeartbeats 1000000 in
set_option maxRecDepth 100000 in
theorem w_buffer_bad2 (l : Launch) (hst : l.stackTraces = false) {D : va_G} {sh : xS} {ad : Nat → Nat} {cI cZ cO : ClassId} {tys : List (ClassId × FieldType)} {mi e0 : Nat} {sa : Nat → Nat} {nb : Nat} {od : Nat → Nat} (DW : xDw sh ad cI cZ cO tys e0 nb od) (V : xV) (h4 : V 4 2 = nI nb) (h5 : V 5 2 = nI nb) (n : Nat) (y : Int32) (hn : n < 8) (h : ¬ (1 ≤ y ∧ y ≤ 8)) : xMw l yL_buffer wsL_buffer D sh ad tys mi e0 sa V [.ref (ad 0), .int (nI n), .int y] (fun v sh' ad' V' => v = some (.int (-3)) ∧ sh' = sh ∧ ad' = ad ∧ V' = V) := by
  have DL := DW.dl
  refine xOfw (cc := cL_buffer) (nL := 4) (ret := some .int) (hh := [(0, 6, 7, 15), (0, 6, 11, 17), (0, 6, 15, 19)]) (own := RL) (by decide) rfl rfl (Nat.le_of_ble_eq_true rfl) DL.2.2.2.2.2.2.1.2.2 ?_
  intro p e s m args below meth c A ls hA htab B E F hN G hl
  have hx := B.1.1
  have hb := B.1.2.1
  have hl : lv_has ls 4 [(0, .ref (ad 0)), (1, .int (nI n)), (2, .int y)] := hl
  refine lv_aload_n hx hb dL_buffer_0 rfl (lv_at hl 0 rfl) ?_
  refine lv_iload_n hx hb dL_buffer_1 rfl (lv_at hl 1 rfl) ?_
  refine lv_iload_n hx hb dL_buffer_2 rfl (lv_at hl 2 rfl) ?_
  refine x_callVc (rest := []) B F G (c_X2_setBuffer_bad2 l hst DL V h4 h5 n y hn h) (cwV 2 B.1.2.2.2.2 gL_buffer_X2_setBuffer rfl rfl rfl (by decide +kernel) ⟨Nat.le_of_ble_eq_true rfl, Nat.le_of_ble_eq_true rfl⟩) (d_recv B G DL.1) rfl hl.1 rfl (Nat.le_of_ble_eq_true rfl) ⟨Nat.le_of_ble_eq_true rfl, Nat.le_of_ble_eq_true rfl⟩ dL_buffer_3 [⟨0, 6, 7, 15⟩] ⟨0, 6, 11, 17⟩ [⟨0, 6, 15, 19⟩] htab (fun z hz => by
    simp only [List.mem_cons, List.not_mem_nil, or_false] at hz
    rcases hz with rfl
    · exact Or.inr ⟨(by decide), eIO, B.1.2.2.2.2 (.classLink RL 15 eIO) (by decide +kernel), hN.1⟩) (by decide) (by decide) (by decide +kernel) (by decide +kernel) (fun q9 H locs G => ?_)
  refine lv_astore_n (lv' := [(3, .ref q9), (0, .ref (ad 0)), (1, .int (nI n)), (2, .int y)]) hx hb dL_buffer_11 rfl hl (by decide) rfl (fun ls hl => ?_)
  refine lv_bipush (v := (-3)) hx hb dL_buffer_12 (by decide) ?_
  exact vx_ret (x_aendi hA B G (⟨rfl, rfl, rfl, rfl⟩) (by decide) (by decide) dL_buffer_14)
set_option maxHeartbeats 1000000 in
set_option maxRecDepth 100000 in
theorem w_buffer_bad3 (l : Launch) (hst : l.stackTraces = false) {D : va_G} {sh : xS} {ad : Nat → Nat} {cI cZ cO : ClassId} {tys : List (ClassId × FieldType)} {mi e0 : Nat} {sa : Nat → Nat} {nb : Nat} {od : Nat → Nat} (DW : xDw sh ad cI cZ cO tys e0 nb od) (V : xV) (h4 : V 4 2 = nI nb) (h5 : V 5 2 = nI nb) (n : Nat) (y : Int32) (hn : n < 8) (h1 : 1 ≤ y ∧ y ≤ 8) (h : ¬ nI (cntP (cHas V n) nb) ≤ y) : xMw l yL_buffer wsL_buffer D sh ad tys mi e0 sa V [.ref (ad 0), .int (nI n), .int y] (fun v sh' ad' V' => v = some (.int (-4)) ∧ sh' = sh ∧ ad' = ad ∧ V' = V) := by
  have DL := DW.dl
  refine xOfw (cc := cL_buffer) (nL := 4) (ret := some .int) (hh := [(0, 6, 7, 15), (0, 6, 11, 17), (0, 6, 15, 19)]) (own := RL) (by decide) rfl rfl (Nat.le_of_ble_eq_true rfl) DL.2.2.2.2.2.2.1.2.2 ?_
  intro p e s m args below meth c A ls hA htab B E F hN G hl
  have hx := B.1.1
  have hb := B.1.2.1
  have hl : lv_has ls 4 [(0, .ref (ad 0)), (1, .int (nI n)), (2, .int y)] := hl
  refine lv_aload_n hx hb dL_buffer_0 rfl (lv_at hl 0 rfl) ?_
  refine lv_iload_n hx hb dL_buffer_1 rfl (lv_at hl 1 rfl) ?_
  refine lv_iload_n hx hb dL_buffer_2 rfl (lv_at hl 2 rfl) ?_
  refine x_callVc (rest := []) B F G (c_X2_setBuffer_bad3 l hst DL V h4 h5 n y hn h1 h) (cwV 2 B.1.2.2.2.2 gL_buffer_X2_setBuffer rfl rfl rfl (by decide +kernel) ⟨Nat.le_of_ble_eq_true rfl, Nat.le_of_ble_eq_true rfl⟩) (d_recv B G DL.1) rfl hl.1 rfl (Nat.le_of_ble_eq_true rfl) ⟨Nat.le_of_ble_eq_true rfl, Nat.le_of_ble_eq_true rfl⟩ dL_buffer_3 [⟨0, 6, 7, 15⟩, ⟨0, 6, 11, 17⟩] ⟨0, 6, 15, 19⟩ [] htab (fun z hz => by
    simp only [List.mem_cons, List.not_mem_nil, or_false] at hz
    rcases hz with rfl | rfl
    · exact Or.inr ⟨(by decide), eIO, B.1.2.2.2.2 (.classLink RL 15 eIO) (by decide +kernel), hN.2.1⟩
    · exact Or.inr ⟨(by decide), eIA, B.1.2.2.2.2 (.classLink RL 17 eIA) (by decide +kernel), hN.2.2⟩) (by decide) (by decide) (by decide +kernel) (by decide +kernel) (fun q9 H locs G => ?_)
  refine lv_astore_n (lv' := [(3, .ref q9), (0, .ref (ad 0)), (1, .int (nI n)), (2, .int y)]) hx hb dL_buffer_15 rfl hl (by decide) rfl (fun ls hl => ?_)
  refine lv_bipush (v := (-4)) hx hb dL_buffer_16 (by decide) ?_
  exact vx_ret (x_aendi hA B G (⟨rfl, rfl, rfl, rfl⟩) (by decide) (by decide) dL_buffer_18)
set_option maxHeartbeats 1000000 in
set_option maxRecDepth 100000 in
theorem w_contact_ok (l : Launch) {D : va_G} {sh : xS} {ad : Nat → Nat} {cI cZ cO : ClassId} {tys : List (ClassId × FieldType)} {mi e0 : Nat} {sa : Nat → Nat} {nb : Nat} {od : Nat → Nat} (DW : xDw sh ad cI cZ cO tys e0 nb od) (V : xV) (h4 : V 4 2 = nI nb) (h5 : V 5 2 = nI nb) (x y f g : Int32) (nc : Nat) (hx7 : 0 ≤ x ∧ x ≤ 7) (hy7 : 0 ≤ y ∧ y ≤ 7) (h : x ≠ y ∧ (0 ≤ f ∧ f ≤ 100000) ∧ (f ≤ g ∧ g ≤ 100000)) (hnc : V 6 6 = nI nc) (hc30 : nc < 30) : xMw l yL_contact wsL_contact D sh ad tys mi e0 sa V [.ref (ad 0), .int x, .int y, .int f, .int g] (fun v sh' ad' V' => v = some (.int (nI (nc + 1))) ∧ sh' = sh ∧ ad' = ad ∧ V' = xu (xu (xu (xu (xu V 9 nc x) 10 nc y) 11 nc f) 12 nc g) 6 6 (nI (nc + 1))) := by
  have DL := DW.dl
  refine xOfw (cc := cL_contact) (nL := 6) (ret := some .int) (hh := [(0, 9, 10, 15), (0, 9, 15, 17), (0, 9, 20, 19)]) (own := RL) (by decide) rfl rfl (Nat.le_of_ble_eq_true rfl) DL.2.2.2.2.2.2.1.2.2 ?_
  intro p e s m args below meth c A ls hA htab B E F hN G hl
  have hx := B.1.1
  have hb := B.1.2.1
  have hl : lv_has ls 6 [(0, .ref (ad 0)), (1, .int x), (2, .int y), (3, .int f), (4, .int g)] := hl
  refine lv_aload_n hx hb dL_contact_0 rfl (lv_at hl 0 rfl) ?_
  refine lv_iload_n hx hb dL_contact_1 rfl (lv_at hl 1 rfl) ?_
  refine lv_iload_n hx hb dL_contact_2 rfl (lv_at hl 2 rfl) ?_
  refine lv_iload_n hx hb dL_contact_3 rfl (lv_at hl 3 rfl) ?_
  refine lv_iload hx hb dL_contact_4 (lv_at hl 4 rfl) ?_
  refine x_callVi (rest := []) B G (c_X2_addContact_ok l DL V h4 h5 x y f g nc hx7 hy7 h hnc hc30) (cwV 4 B.1.2.2.2.2 gL_contact_X2_addContact rfl rfl rfl (by decide +kernel) ⟨Nat.le_of_ble_eq_true rfl, Nat.le_of_ble_eq_true rfl⟩) (d_recv B G DL.1) rfl hl.1 rfl (Nat.le_of_ble_eq_true rfl) ⟨Nat.zero_le _, Nat.zero_le _⟩ dL_contact_6 (fun H locs G => ?_)
  exact vx_ret (x_aendi hA B G (⟨rfl, rfl, rfl, rfl⟩) (by decide) (by decide) dL_contact_9)
set_option maxHeartbeats 1000000 in
set_option maxRecDepth 100000 in
theorem w_contact_bad1 (l : Launch) (hst : l.stackTraces = false) {D : va_G} {sh : xS} {ad : Nat → Nat} {cI cZ cO : ClassId} {tys : List (ClassId × FieldType)} {mi e0 : Nat} {sa : Nat → Nat} {nb : Nat} {od : Nat → Nat} (DW : xDw sh ad cI cZ cO tys e0 nb od) (V : xV) (h4 : V 4 2 = nI nb) (h5 : V 5 2 = nI nb) (x y f g : Int32) (h : ¬ ((0 ≤ x ∧ x ≤ 7) ∧ (0 ≤ y ∧ y ≤ 7))) : xMw l yL_contact wsL_contact D sh ad tys mi e0 sa V [.ref (ad 0), .int x, .int y, .int f, .int g] (fun v sh' ad' V' => v = some (.int (-2)) ∧ sh' = sh ∧ ad' = ad ∧ V' = V) := by
  have DL := DW.dl
  refine xOfw (cc := cL_contact) (nL := 6) (ret := some .int) (hh := [(0, 9, 10, 15), (0, 9, 15, 17), (0, 9, 20, 19)]) (own := RL) (by decide) rfl rfl (Nat.le_of_ble_eq_true rfl) DL.2.2.2.2.2.2.1.2.2 ?_
  intro p e s m args below meth c A ls hA htab B E F hN G hl
  have hx := B.1.1
  have hb := B.1.2.1
  have hl : lv_has ls 6 [(0, .ref (ad 0)), (1, .int x), (2, .int y), (3, .int f), (4, .int g)] := hl
  refine lv_aload_n hx hb dL_contact_0 rfl (lv_at hl 0 rfl) ?_
  refine lv_iload_n hx hb dL_contact_1 rfl (lv_at hl 1 rfl) ?_
  refine lv_iload_n hx hb dL_contact_2 rfl (lv_at hl 2 rfl) ?_
  refine lv_iload_n hx hb dL_contact_3 rfl (lv_at hl 3 rfl) ?_
  refine lv_iload hx hb dL_contact_4 (lv_at hl 4 rfl) ?_
  refine x_callVc (rest := []) B F G (c_X2_addContact_bad1 l hst DL V h4 h5 x y f g h) (cwV 4 B.1.2.2.2.2 gL_contact_X2_addContact rfl rfl rfl (by decide +kernel) ⟨Nat.le_of_ble_eq_true rfl, Nat.le_of_ble_eq_true rfl⟩) (d_recv B G DL.1) rfl hl.1 rfl (Nat.le_of_ble_eq_true rfl) ⟨Nat.le_of_ble_eq_true rfl, Nat.le_of_ble_eq_true rfl⟩ dL_contact_6 [] ⟨0, 9, 10, 15⟩ [⟨0, 9, 15, 17⟩, ⟨0, 9, 20, 19⟩] htab (fun z hz => nomatch hz) (by decide) (by decide) (by decide +kernel) (by decide +kernel) (fun q9 H locs G => ?_)
  refine lv_astore (lv' := [(5, .ref q9), (0, .ref (ad 0)), (1, .int x), (2, .int y), (3, .int f), (4, .int g)]) hx hb dL_contact_10 hl (by decide) rfl (fun ls hl => ?_)
  refine lv_bipush (v := (-2)) hx hb dL_contact_12 (by decide) ?_
  exact vx_ret (x_aendi hA B G (⟨rfl, rfl, rfl, rfl⟩) (by decide) (by decide) dL_contact_14)
set_option maxHeartbeats 1000000 in
set_option maxRecDepth 100000 in
theorem w_contact_bad2 (l : Launch) (hst : l.stackTraces = false) {D : va_G} {sh : xS} {ad : Nat → Nat} {cI cZ cO : ClassId} {tys : List (ClassId × FieldType)} {mi e0 : Nat} {sa : Nat → Nat} {nb : Nat} {od : Nat → Nat} (DW : xDw sh ad cI cZ cO tys e0 nb od) (V : xV) (h4 : V 4 2 = nI nb) (h5 : V 5 2 = nI nb) (x y f g : Int32) (hx7 : 0 ≤ x ∧ x ≤ 7) (hy7 : 0 ≤ y ∧ y ≤ 7) (h : ¬ (x ≠ y ∧ (0 ≤ f ∧ f ≤ 100000) ∧ (f ≤ g ∧ g ≤ 100000))) : xMw l yL_contact wsL_contact D sh ad tys mi e0 sa V [.ref (ad 0), .int x, .int y, .int f, .int g] (fun v sh' ad' V' => v = some (.int (-3)) ∧ sh' = sh ∧ ad' = ad ∧ V' = V) := by
  have DL := DW.dl
  refine xOfw (cc := cL_contact) (nL := 6) (ret := some .int) (hh := [(0, 9, 10, 15), (0, 9, 15, 17), (0, 9, 20, 19)]) (own := RL) (by decide) rfl rfl (Nat.le_of_ble_eq_true rfl) DL.2.2.2.2.2.2.1.2.2 ?_
  intro p e s m args below meth c A ls hA htab B E F hN G hl
  have hx := B.1.1
  have hb := B.1.2.1
  have hl : lv_has ls 6 [(0, .ref (ad 0)), (1, .int x), (2, .int y), (3, .int f), (4, .int g)] := hl
  refine lv_aload_n hx hb dL_contact_0 rfl (lv_at hl 0 rfl) ?_
  refine lv_iload_n hx hb dL_contact_1 rfl (lv_at hl 1 rfl) ?_
  refine lv_iload_n hx hb dL_contact_2 rfl (lv_at hl 2 rfl) ?_
  refine lv_iload_n hx hb dL_contact_3 rfl (lv_at hl 3 rfl) ?_
  refine lv_iload hx hb dL_contact_4 (lv_at hl 4 rfl) ?_
  refine x_callVc (rest := []) B F G (c_X2_addContact_bad2 l hst DL V h4 h5 x y f g hx7 hy7 h) (cwV 4 B.1.2.2.2.2 gL_contact_X2_addContact rfl rfl rfl (by decide +kernel) ⟨Nat.le_of_ble_eq_true rfl, Nat.le_of_ble_eq_true rfl⟩) (d_recv B G DL.1) rfl hl.1 rfl (Nat.le_of_ble_eq_true rfl) ⟨Nat.le_of_ble_eq_true rfl, Nat.le_of_ble_eq_true rfl⟩ dL_contact_6 [⟨0, 9, 10, 15⟩] ⟨0, 9, 15, 17⟩ [⟨0, 9, 20, 19⟩] htab (fun z hz => by
    simp only [List.mem_cons, List.not_mem_nil, or_false] at hz
    rcases hz with rfl
    · exact Or.inr ⟨(by decide), eIO, B.1.2.2.2.2 (.classLink RL 15 eIO) (by decide +kernel), hN.1⟩) (by decide) (by decide) (by decide +kernel) (by decide +kernel) (fun q9 H locs G => ?_)
  refine lv_astore (lv' := [(5, .ref q9), (0, .ref (ad 0)), (1, .int x), (2, .int y), (3, .int f), (4, .int g)]) hx hb dL_contact_15 hl (by decide) rfl (fun ls hl => ?_)
  refine lv_bipush (v := (-3)) hx hb dL_contact_17 (by decide) ?_
  exact vx_ret (x_aendi hA B G (⟨rfl, rfl, rfl, rfl⟩) (by decide) (by decide) dL_contact_19)
set_option maxHeartbeats 1000000 in
set_option maxRecDepth 100000 in
theorem w_contact_bad3 (l : Launch) (hst : l.stackTraces = false) {D : va_G} {sh : xS} {ad : Nat → Nat} {cI cZ cO : ClassId} {tys : List (ClassId × FieldType)} {mi e0 : Nat} {sa : Nat → Nat} {nb : Nat} {od : Nat → Nat} (DW : xDw sh ad cI cZ cO tys e0 nb od) (V : xV) (h4 : V 4 2 = nI nb) (h5 : V 5 2 = nI nb) (x y f g : Int32) (hx7 : 0 ≤ x ∧ x ≤ 7) (hy7 : 0 ≤ y ∧ y ≤ 7) (h : x ≠ y ∧ (0 ≤ f ∧ f ≤ 100000) ∧ (f ≤ g ∧ g ≤ 100000)) (h30 : ¬ V 6 6 < 30) : xMw l yL_contact wsL_contact D sh ad tys mi e0 sa V [.ref (ad 0), .int x, .int y, .int f, .int g] (fun v sh' ad' V' => v = some (.int (-4)) ∧ sh' = sh ∧ ad' = ad ∧ V' = V) := by
  have DL := DW.dl
  refine xOfw (cc := cL_contact) (nL := 6) (ret := some .int) (hh := [(0, 9, 10, 15), (0, 9, 15, 17), (0, 9, 20, 19)]) (own := RL) (by decide) rfl rfl (Nat.le_of_ble_eq_true rfl) DL.2.2.2.2.2.2.1.2.2 ?_
  intro p e s m args below meth c A ls hA htab B E F hN G hl
  have hx := B.1.1
  have hb := B.1.2.1
  have hl : lv_has ls 6 [(0, .ref (ad 0)), (1, .int x), (2, .int y), (3, .int f), (4, .int g)] := hl
  refine lv_aload_n hx hb dL_contact_0 rfl (lv_at hl 0 rfl) ?_
  refine lv_iload_n hx hb dL_contact_1 rfl (lv_at hl 1 rfl) ?_
  refine lv_iload_n hx hb dL_contact_2 rfl (lv_at hl 2 rfl) ?_
  refine lv_iload_n hx hb dL_contact_3 rfl (lv_at hl 3 rfl) ?_
  refine lv_iload hx hb dL_contact_4 (lv_at hl 4 rfl) ?_
  refine x_callVc (rest := []) B F G (c_X2_addContact_bad3 l hst DL V h4 h5 x y f g hx7 hy7 h h30) (cwV 4 B.1.2.2.2.2 gL_contact_X2_addContact rfl rfl rfl (by decide +kernel) ⟨Nat.le_of_ble_eq_true rfl, Nat.le_of_ble_eq_true rfl⟩) (d_recv B G DL.1) rfl hl.1 rfl (Nat.le_of_ble_eq_true rfl) ⟨Nat.le_of_ble_eq_true rfl, Nat.le_of_ble_eq_true rfl⟩ dL_contact_6 [⟨0, 9, 10, 15⟩, ⟨0, 9, 15, 17⟩] ⟨0, 9, 20, 19⟩ [] htab (fun z hz => by
    simp only [List.mem_cons, List.not_mem_nil, or_false] at hz
    rcases hz with rfl | rfl
    · exact Or.inr ⟨(by decide), eIO, B.1.2.2.2.2 (.classLink RL 15 eIO) (by decide +kernel), hN.2.1⟩
    · exact Or.inr ⟨(by decide), eIA, B.1.2.2.2.2 (.classLink RL 17 eIA) (by decide +kernel), hN.2.2⟩) (by decide) (by decide) (by decide +kernel) (by decide +kernel) (fun q9 H locs G => ?_)
  refine lv_astore (lv' := [(5, .ref q9), (0, .ref (ad 0)), (1, .int x), (2, .int y), (3, .int f), (4, .int g)]) hx hb dL_contact_20 hl (by decide) rfl (fun ls hl => ?_)
  refine lv_bipush (v := (-4)) hx hb dL_contact_22 (by decide) ?_
  exact vx_ret (x_aendi hA B G (⟨rfl, rfl, rfl, rfl⟩) (by decide) (by decide) dL_contact_24)
set_option maxHeartbeats 1000000 in
set_option maxRecDepth 100000 in
theorem w_meet_ok (l : Launch) {D : va_G} {sh : xS} {ad : Nat → Nat} {cI cZ cO : ClassId} {tys : List (ClassId × FieldType)} {mi e0 : Nat} {sa : Nat → Nat} {nb : Nat} {od : Nat → Nat} (DW : xDw sh ad cI cZ cO tys e0 nb od) (V : xV) (h4 : V 4 2 = nI nb) (h5 : V 5 2 = nI nb) (a b nc : Nat) (most : Int32) (ha : a < 8) (hb8 : b < 8) (hab : a ≠ b) (hm : 0 ≤ most ∧ most ≤ 20) (hnc : V 6 6 = nI nc) (hc30 : nc ≤ 30) (hpl : cPl V nc) (hg : ∀ k, k < nb → V (20 + 4 * k) 1 = nI (V (20 + 4 * k) 1).toNatClampNeg ∧ (V (20 + 4 * k) 1).toNatClampNeg < 8) : xMw l yL_meet wsL_meet D sh ad tys mi e0 sa V [.ref (ad 0), .int (nI a), .int (nI b), .int most] (fun v sh' ad' V' => v = some (.int ((cN2 V od a b nb most).1 + (cN3 V od a b nb most).1)) ∧ sh' = sh ∧ ad' = ad ∧ V' = cMv (cN3 V od a b nb most).2 a b nc nb) := by
  have DL := DW.dl
  refine xOfw (cc := cL_meet) (nL := 5) (ret := some .int) (hh := [(0, 7, 8, 15), (0, 7, 13, 17)]) (own := RL) (by decide) rfl rfl (Nat.le_of_ble_eq_true rfl) DL.2.2.2.2.2.2.1.2.2 ?_
  intro p e s m args below meth c A ls hA htab B E F hN G hl
  have hx := B.1.1
  have hb := B.1.2.1
  have hl : lv_has ls 5 [(0, .ref (ad 0)), (1, .int (nI a)), (2, .int (nI b)), (3, .int most)] := hl
  refine lv_aload_n hx hb dL_meet_0 rfl (lv_at hl 0 rfl) ?_
  refine lv_iload_n hx hb dL_meet_1 rfl (lv_at hl 1 rfl) ?_
  refine lv_iload_n hx hb dL_meet_2 rfl (lv_at hl 2 rfl) ?_
  refine lv_iload_n hx hb dL_meet_3 rfl (lv_at hl 3 rfl) ?_
  refine x_callVi (rest := []) B G (c_X2_meet_ok l DL V h4 h5 a b nc most ha hb8 hab hm hnc hc30 hpl hg) (cwV 3 B.1.2.2.2.2 gL_meet_X2_meet rfl rfl rfl (by decide +kernel) ⟨Nat.le_of_ble_eq_true rfl, Nat.le_of_ble_eq_true rfl⟩) (d_recv B G DL.1) rfl hl.1 rfl (Nat.le_of_ble_eq_true rfl) ⟨Nat.zero_le _, Nat.zero_le _⟩ dL_meet_4 (fun H locs G => ?_)
  exact vx_ret (x_aendi hA B G (⟨rfl, rfl, rfl, rfl⟩) (by decide) (by decide) dL_meet_7)
set_option maxHeartbeats 1000000 in
set_option maxRecDepth 100000 in
theorem w_meet_bad1 (l : Launch) (hst : l.stackTraces = false) {D : va_G} {sh : xS} {ad : Nat → Nat} {cI cZ cO : ClassId} {tys : List (ClassId × FieldType)} {mi e0 : Nat} {sa : Nat → Nat} {nb : Nat} {od : Nat → Nat} (DW : xDw sh ad cI cZ cO tys e0 nb od) (V : xV) (h4 : V 4 2 = nI nb) (h5 : V 5 2 = nI nb) (x y z : Int32) (h : ¬ ((0 ≤ x ∧ x ≤ 7) ∧ (0 ≤ y ∧ y ≤ 7))) : xMw l yL_meet wsL_meet D sh ad tys mi e0 sa V [.ref (ad 0), .int x, .int y, .int z] (fun v sh' ad' V' => v = some (.int (-2)) ∧ sh' = sh ∧ ad' = ad ∧ V' = V) := by
  have DL := DW.dl
  refine xOfw (cc := cL_meet) (nL := 5) (ret := some .int) (hh := [(0, 7, 8, 15), (0, 7, 13, 17)]) (own := RL) (by decide) rfl rfl (Nat.le_of_ble_eq_true rfl) DL.2.2.2.2.2.2.1.2.2 ?_
  intro p e s m args below meth c A ls hA htab B E F hN G hl
  have hx := B.1.1
  have hb := B.1.2.1
  have hl : lv_has ls 5 [(0, .ref (ad 0)), (1, .int x), (2, .int y), (3, .int z)] := hl
  refine lv_aload_n hx hb dL_meet_0 rfl (lv_at hl 0 rfl) ?_
  refine lv_iload_n hx hb dL_meet_1 rfl (lv_at hl 1 rfl) ?_
  refine lv_iload_n hx hb dL_meet_2 rfl (lv_at hl 2 rfl) ?_
  refine lv_iload_n hx hb dL_meet_3 rfl (lv_at hl 3 rfl) ?_
  refine x_callVc (rest := []) B F G (c_X2_meet_bad1 l hst DL V h4 h5 x y z h) (cwV 3 B.1.2.2.2.2 gL_meet_X2_meet rfl rfl rfl (by decide +kernel) ⟨Nat.le_of_ble_eq_true rfl, Nat.le_of_ble_eq_true rfl⟩) (d_recv B G DL.1) rfl hl.1 rfl (Nat.le_of_ble_eq_true rfl) ⟨Nat.le_of_ble_eq_true rfl, Nat.le_of_ble_eq_true rfl⟩ dL_meet_4 [] ⟨0, 7, 8, 15⟩ [⟨0, 7, 13, 17⟩] htab (fun z hz => nomatch hz) (by decide) (by decide) (by decide +kernel) (by decide +kernel) (fun q9 H locs G => ?_)
  refine lv_astore (lv' := [(4, .ref q9), (0, .ref (ad 0)), (1, .int x), (2, .int y), (3, .int z)]) hx hb dL_meet_8 hl (by decide) rfl (fun ls hl => ?_)
  refine lv_bipush (v := (-2)) hx hb dL_meet_10 (by decide) ?_
  exact vx_ret (x_aendi hA B G (⟨rfl, rfl, rfl, rfl⟩) (by decide) (by decide) dL_meet_12)
set_option maxHeartbeats 1000000 in
set_option maxRecDepth 100000 in
theorem w_meet_bad2 (l : Launch) (hst : l.stackTraces = false) {D : va_G} {sh : xS} {ad : Nat → Nat} {cI cZ cO : ClassId} {tys : List (ClassId × FieldType)} {mi e0 : Nat} {sa : Nat → Nat} {nb : Nat} {od : Nat → Nat} (DW : xDw sh ad cI cZ cO tys e0 nb od) (V : xV) (h4 : V 4 2 = nI nb) (h5 : V 5 2 = nI nb) (x y z : Int32) (hx7 : 0 ≤ x ∧ x ≤ 7) (hy7 : 0 ≤ y ∧ y ≤ 7) (h : ¬ (x ≠ y ∧ (0 ≤ z ∧ z ≤ 20))) : xMw l yL_meet wsL_meet D sh ad tys mi e0 sa V [.ref (ad 0), .int x, .int y, .int z] (fun v sh' ad' V' => v = some (.int (-3)) ∧ sh' = sh ∧ ad' = ad ∧ V' = V) := by
  have DL := DW.dl
  refine xOfw (cc := cL_meet) (nL := 5) (ret := some .int) (hh := [(0, 7, 8, 15), (0, 7, 13, 17)]) (own := RL) (by decide) rfl rfl (Nat.le_of_ble_eq_true rfl) DL.2.2.2.2.2.2.1.2.2 ?_
  intro p e s m args below meth c A ls hA htab B E F hN G hl
  have hx := B.1.1
  have hb := B.1.2.1
  have hl : lv_has ls 5 [(0, .ref (ad 0)), (1, .int x), (2, .int y), (3, .int z)] := hl
  refine lv_aload_n hx hb dL_meet_0 rfl (lv_at hl 0 rfl) ?_
  refine lv_iload_n hx hb dL_meet_1 rfl (lv_at hl 1 rfl) ?_
  refine lv_iload_n hx hb dL_meet_2 rfl (lv_at hl 2 rfl) ?_
  refine lv_iload_n hx hb dL_meet_3 rfl (lv_at hl 3 rfl) ?_
  refine x_callVc (rest := []) B F G (c_X2_meet_bad2 l hst DL V h4 h5 x y z hx7 hy7 h) (cwV 3 B.1.2.2.2.2 gL_meet_X2_meet rfl rfl rfl (by decide +kernel) ⟨Nat.le_of_ble_eq_true rfl, Nat.le_of_ble_eq_true rfl⟩) (d_recv B G DL.1) rfl hl.1 rfl (Nat.le_of_ble_eq_true rfl) ⟨Nat.le_of_ble_eq_true rfl, Nat.le_of_ble_eq_true rfl⟩ dL_meet_4 [⟨0, 7, 8, 15⟩] ⟨0, 7, 13, 17⟩ [] htab (fun z hz => by
    simp only [List.mem_cons, List.not_mem_nil, or_false] at hz
    rcases hz with rfl
    · exact Or.inr ⟨(by decide), eIO, B.1.2.2.2.2 (.classLink RL 15 eIO) (by decide +kernel), hN.1⟩) (by decide) (by decide) (by decide +kernel) (by decide +kernel) (fun q9 H locs G => ?_)
  refine lv_astore (lv' := [(4, .ref q9), (0, .ref (ad 0)), (1, .int x), (2, .int y), (3, .int z)]) hx hb dL_meet_13 hl (by decide) rfl (fun ls hl => ?_)
  refine lv_bipush (v := (-3)) hx hb dL_meet_15 (by decide) ?_
  exact vx_ret (x_aendi hA B G (⟨rfl, rfl, rfl, rfl⟩) (by decide) (by decide) dL_meet_17)
set_option maxHeartbeats 1000000 in
set_option maxRecDepth 100000 in
theorem w_send_bad1 (l : Launch) (hst : l.stackTraces = false) {D : va_G} {sh : xS} {ad : Nat → Nat} {cI cZ cO : ClassId} {tys : List (ClassId × FieldType)} {mi e0 : Nat} {sa : Nat → Nat} {nb : Nat} {od : Nat → Nat} (DW : xDw sh ad cI cZ cO tys e0 nb od) (V : xV) (h4 : V 4 2 = nI nb) (h5 : V 5 2 = nI nb) (x y p0 c0 t0 : Int32) (h : ¬ ((0 ≤ x ∧ x ≤ 7) ∧ (0 ≤ y ∧ y ≤ 7))) : xMw l yL_send wsL_send D sh ad tys mi e0 sa V [.ref (ad 0), .int x, .int y, .int p0, .int c0, .int t0] (fun v sh' ad' V' => v = some (.int (-2)) ∧ sh' = sh ∧ ad' = ad ∧ V' = V) := by
  have DL := DW.dl
  refine xOfw (cc := cL_send) (nL := 7) (ret := some .int) (hh := [(0, 11, 12, 15), (0, 11, 17, 17), (0, 11, 22, 19)]) (own := RL) (by decide) rfl rfl (Nat.le_of_ble_eq_true rfl) DL.2.2.2.2.2.2.1.2.2 ?_
  intro p e s m args below meth c A ls hA htab B E F hN G hl
  have hx := B.1.1
  have hb := B.1.2.1
  have hl : lv_has ls 7 [(0, .ref (ad 0)), (1, .int x), (2, .int y), (3, .int p0), (4, .int c0), (5, .int t0)] := hl
  refine lv_aload_n hx hb dL_send_0 rfl (lv_at hl 0 rfl) ?_
  refine lv_iload_n hx hb dL_send_1 rfl (lv_at hl 1 rfl) ?_
  refine lv_iload_n hx hb dL_send_2 rfl (lv_at hl 2 rfl) ?_
  refine lv_iload_n hx hb dL_send_3 rfl (lv_at hl 3 rfl) ?_
  refine lv_iload hx hb dL_send_4 (lv_at hl 4 rfl) ?_
  refine lv_iload hx hb dL_send_6 (lv_at hl 5 rfl) ?_
  refine x_callVc (rest := []) B F G (c_X2_send_bad1 l hst DL V h4 h5 x y p0 c0 t0 h) (cwV 5 B.1.2.2.2.2 gL_send_X2_send rfl rfl rfl (by decide +kernel) ⟨Nat.le_of_ble_eq_true rfl, Nat.le_of_ble_eq_true rfl⟩) (d_recv B G DL.1) rfl hl.1 rfl (Nat.le_of_ble_eq_true rfl) ⟨Nat.le_of_ble_eq_true rfl, Nat.le_of_ble_eq_true rfl⟩ dL_send_8 [] ⟨0, 11, 12, 15⟩ [⟨0, 11, 17, 17⟩, ⟨0, 11, 22, 19⟩] htab (fun z hz => nomatch hz) (by decide) (by decide) (by decide +kernel) (by decide +kernel) (fun q9 H locs G => ?_)
  refine lv_astore (lv' := [(6, .ref q9), (0, .ref (ad 0)), (1, .int x), (2, .int y), (3, .int p0), (4, .int c0), (5, .int t0)]) hx hb dL_send_12 hl (by decide) rfl (fun ls hl => ?_)
  refine lv_bipush (v := (-2)) hx hb dL_send_14 (by decide) ?_
  exact vx_ret (x_aendi hA B G (⟨rfl, rfl, rfl, rfl⟩) (by decide) (by decide) dL_send_16)
set_option maxHeartbeats 1000000 in
set_option maxRecDepth 100000 in
theorem w_send_bad2 (l : Launch) (hst : l.stackTraces = false) {D : va_G} {sh : xS} {ad : Nat → Nat} {cI cZ cO : ClassId} {tys : List (ClassId × FieldType)} {mi e0 : Nat} {sa : Nat → Nat} {nb : Nat} {od : Nat → Nat} (DW : xDw sh ad cI cZ cO tys e0 nb od) (V : xV) (h4 : V 4 2 = nI nb) (h5 : V 5 2 = nI nb) (x y p0 c0 t0 : Int32) (hx7 : 0 ≤ x ∧ x ≤ 7) (hy7 : 0 ≤ y ∧ y ≤ 7) (h : ¬ (x ≠ y ∧ (0 ≤ p0 ∧ p0 ≤ 2) ∧ (1 ≤ c0 ∧ c0 ≤ 64) ∧ (1 ≤ t0 ∧ t0 ≤ 10000))) : xMw l yL_send wsL_send D sh ad tys mi e0 sa V [.ref (ad 0), .int x, .int y, .int p0, .int c0, .int t0] (fun v sh' ad' V' => v = some (.int (-3)) ∧ sh' = sh ∧ ad' = ad ∧ V' = V) := by
  have DL := DW.dl
  refine xOfw (cc := cL_send) (nL := 7) (ret := some .int) (hh := [(0, 11, 12, 15), (0, 11, 17, 17), (0, 11, 22, 19)]) (own := RL) (by decide) rfl rfl (Nat.le_of_ble_eq_true rfl) DL.2.2.2.2.2.2.1.2.2 ?_
  intro p e s m args below meth c A ls hA htab B E F hN G hl
  have hx := B.1.1
  have hb := B.1.2.1
  have hl : lv_has ls 7 [(0, .ref (ad 0)), (1, .int x), (2, .int y), (3, .int p0), (4, .int c0), (5, .int t0)] := hl
  refine lv_aload_n hx hb dL_send_0 rfl (lv_at hl 0 rfl) ?_
  refine lv_iload_n hx hb dL_send_1 rfl (lv_at hl 1 rfl) ?_
  refine lv_iload_n hx hb dL_send_2 rfl (lv_at hl 2 rfl) ?_
  refine lv_iload_n hx hb dL_send_3 rfl (lv_at hl 3 rfl) ?_
  refine lv_iload hx hb dL_send_4 (lv_at hl 4 rfl) ?_
  refine lv_iload hx hb dL_send_6 (lv_at hl 5 rfl) ?_
  refine x_callVc (rest := []) B F G (c_X2_send_bad2 l hst DL V h4 h5 x y p0 c0 t0 hx7 hy7 h) (cwV 5 B.1.2.2.2.2 gL_send_X2_send rfl rfl rfl (by decide +kernel) ⟨Nat.le_of_ble_eq_true rfl, Nat.le_of_ble_eq_true rfl⟩) (d_recv B G DL.1) rfl hl.1 rfl (Nat.le_of_ble_eq_true rfl) ⟨Nat.le_of_ble_eq_true rfl, Nat.le_of_ble_eq_true rfl⟩ dL_send_8 [⟨0, 11, 12, 15⟩] ⟨0, 11, 17, 17⟩ [⟨0, 11, 22, 19⟩] htab (fun z hz => by
    simp only [List.mem_cons, List.not_mem_nil, or_false] at hz
    rcases hz with rfl
    · exact Or.inr ⟨(by decide), eIO, B.1.2.2.2.2 (.classLink RL 15 eIO) (by decide +kernel), hN.1⟩) (by decide) (by decide) (by decide +kernel) (by decide +kernel) (fun q9 H locs G => ?_)
  refine lv_astore (lv' := [(6, .ref q9), (0, .ref (ad 0)), (1, .int x), (2, .int y), (3, .int p0), (4, .int c0), (5, .int t0)]) hx hb dL_send_17 hl (by decide) rfl (fun ls hl => ?_)
  refine lv_bipush (v := (-3)) hx hb dL_send_19 (by decide) ?_
  exact vx_ret (x_aendi hA B G (⟨rfl, rfl, rfl, rfl⟩) (by decide) (by decide) dL_send_21)
set_option maxHeartbeats 1000000 in
set_option maxRecDepth 100000 in
theorem w_send_bad3 (l : Launch) (hst : l.stackTraces = false) {D : va_G} {sh : xS} {ad : Nat → Nat} {cI cZ cO : ClassId} {tys : List (ClassId × FieldType)} {mi e0 : Nat} {sa : Nat → Nat} {nb : Nat} {od : Nat → Nat} (DW : xDw sh ad cI cZ cO tys e0 nb od) (V : xV) (h4 : V 4 2 = nI nb) (h5 : V 5 2 = nI nb) (x y p0 c0 t0 : Int32) (hx7 : 0 ≤ x ∧ x ≤ 7) (hy7 : 0 ≤ y ∧ y ≤ 7) (h : x ≠ y ∧ (0 ≤ p0 ∧ p0 ≤ 2) ∧ (1 ≤ c0 ∧ c0 ≤ 64) ∧ (1 ≤ t0 ∧ t0 ≤ 10000)) (h40 : nb = 40) : xMw l yL_send wsL_send D sh ad tys mi e0 sa V [.ref (ad 0), .int x, .int y, .int p0, .int c0, .int t0] (fun v sh' ad' V' => v = some (.int (-4)) ∧ sh' = sh ∧ ad' = ad ∧ V' = V) := by
  have DL := DW.dl
  refine xOfw (cc := cL_send) (nL := 7) (ret := some .int) (hh := [(0, 11, 12, 15), (0, 11, 17, 17), (0, 11, 22, 19)]) (own := RL) (by decide) rfl rfl (Nat.le_of_ble_eq_true rfl) DL.2.2.2.2.2.2.1.2.2 ?_
  intro p e s m args below meth c A ls hA htab B E F hN G hl
  have hx := B.1.1
  have hb := B.1.2.1
  have hl : lv_has ls 7 [(0, .ref (ad 0)), (1, .int x), (2, .int y), (3, .int p0), (4, .int c0), (5, .int t0)] := hl
  refine lv_aload_n hx hb dL_send_0 rfl (lv_at hl 0 rfl) ?_
  refine lv_iload_n hx hb dL_send_1 rfl (lv_at hl 1 rfl) ?_
  refine lv_iload_n hx hb dL_send_2 rfl (lv_at hl 2 rfl) ?_
  refine lv_iload_n hx hb dL_send_3 rfl (lv_at hl 3 rfl) ?_
  refine lv_iload hx hb dL_send_4 (lv_at hl 4 rfl) ?_
  refine lv_iload hx hb dL_send_6 (lv_at hl 5 rfl) ?_
  refine x_callVc (rest := []) B F G (c_X2_send_bad3 l hst DL V h4 h5 x y p0 c0 t0 hx7 hy7 h h40) (cwV 5 B.1.2.2.2.2 gL_send_X2_send rfl rfl rfl (by decide +kernel) ⟨Nat.le_of_ble_eq_true rfl, Nat.le_of_ble_eq_true rfl⟩) (d_recv B G DL.1) rfl hl.1 rfl (Nat.le_of_ble_eq_true rfl) ⟨Nat.le_of_ble_eq_true rfl, Nat.le_of_ble_eq_true rfl⟩ dL_send_8 [⟨0, 11, 12, 15⟩, ⟨0, 11, 17, 17⟩] ⟨0, 11, 22, 19⟩ [] htab (fun z hz => by
    simp only [List.mem_cons, List.not_mem_nil, or_false] at hz
    rcases hz with rfl | rfl
    · exact Or.inr ⟨(by decide), eIO, B.1.2.2.2.2 (.classLink RL 15 eIO) (by decide +kernel), hN.2.1⟩
    · exact Or.inr ⟨(by decide), eIA, B.1.2.2.2.2 (.classLink RL 17 eIA) (by decide +kernel), hN.2.2⟩) (by decide) (by decide) (by decide +kernel) (by decide +kernel) (fun q9 H locs G => ?_)
  refine lv_astore (lv' := [(6, .ref q9), (0, .ref (ad 0)), (1, .int x), (2, .int y), (3, .int p0), (4, .int c0), (5, .int t0)]) hx hb dL_send_22 hl (by decide) rfl (fun ls hl => ?_)
  refine lv_bipush (v := (-4)) hx hb dL_send_24 (by decide) ?_
  exact vx_ret (x_aendi hA B G (⟨rfl, rfl, rfl, rfl⟩) (by decide) (by decide) dL_send_26)
set_option maxHeartbeats 1000000 in
set_option maxRecDepth 100000 in
theorem w_send_bad4 (l : Launch) (hst : l.stackTraces = false) {D : va_G} {sh : xS} {ad : Nat → Nat} {cI cZ cO : ClassId} {tys : List (ClassId × FieldType)} {mi e0 : Nat} {sa : Nat → Nat} {nb : Nat} {od : Nat → Nat} (DW : xDw sh ad cI cZ cO tys e0 nb od) (V : xV) (h4 : V 4 2 = nI nb) (h5 : V 5 2 = nI nb) (n : Nat) (y p0 c0 t0 : Int32) (hn : n < 8) (hy7 : 0 ≤ y ∧ y ≤ 7) (h : nI n ≠ y ∧ (0 ≤ p0 ∧ p0 ≤ 2) ∧ (1 ≤ c0 ∧ c0 ≤ 64) ∧ (1 ≤ t0 ∧ t0 ≤ 10000)) (h40 : nb < 40) (hr : ¬ cRoomB V od n p0 nb = true) : xMw l yL_send wsL_send D sh ad tys mi e0 sa V [.ref (ad 0), .int (nI n), .int y, .int p0, .int c0, .int t0] (fun v sh' ad' V' => v = some (.int (-4)) ∧ sh' = sh ∧ ad' = ad ∧ V' = cRoomV V od n p0 nb) := by
  have DL := DW.dl
  refine xOfw (cc := cL_send) (nL := 7) (ret := some .int) (hh := [(0, 11, 12, 15), (0, 11, 17, 17), (0, 11, 22, 19)]) (own := RL) (by decide) rfl rfl (Nat.le_of_ble_eq_true rfl) DL.2.2.2.2.2.2.1.2.2 ?_
  intro p e s m args below meth c A ls hA htab B E F hN G hl
  have hx := B.1.1
  have hb := B.1.2.1
  have hl : lv_has ls 7 [(0, .ref (ad 0)), (1, .int (nI n)), (2, .int y), (3, .int p0), (4, .int c0), (5, .int t0)] := hl
  refine lv_aload_n hx hb dL_send_0 rfl (lv_at hl 0 rfl) ?_
  refine lv_iload_n hx hb dL_send_1 rfl (lv_at hl 1 rfl) ?_
  refine lv_iload_n hx hb dL_send_2 rfl (lv_at hl 2 rfl) ?_
  refine lv_iload_n hx hb dL_send_3 rfl (lv_at hl 3 rfl) ?_
  refine lv_iload hx hb dL_send_4 (lv_at hl 4 rfl) ?_
  refine lv_iload hx hb dL_send_6 (lv_at hl 5 rfl) ?_
  refine x_callVc (rest := []) B F G (c_X2_send_bad4 l hst DL V h4 h5 n y p0 c0 t0 hn hy7 h h40 hr) (cwV 5 B.1.2.2.2.2 gL_send_X2_send rfl rfl rfl (by decide +kernel) ⟨Nat.le_of_ble_eq_true rfl, Nat.le_of_ble_eq_true rfl⟩) (d_recv B G DL.1) rfl hl.1 rfl (Nat.le_of_ble_eq_true rfl) ⟨Nat.le_of_ble_eq_true rfl, Nat.le_of_ble_eq_true rfl⟩ dL_send_8 [⟨0, 11, 12, 15⟩, ⟨0, 11, 17, 17⟩] ⟨0, 11, 22, 19⟩ [] htab (fun z hz => by
    simp only [List.mem_cons, List.not_mem_nil, or_false] at hz
    rcases hz with rfl | rfl
    · exact Or.inr ⟨(by decide), eIO, B.1.2.2.2.2 (.classLink RL 15 eIO) (by decide +kernel), hN.2.1⟩
    · exact Or.inr ⟨(by decide), eIA, B.1.2.2.2.2 (.classLink RL 17 eIA) (by decide +kernel), hN.2.2⟩) (by decide) (by decide) (by decide +kernel) (by decide +kernel) (fun q9 H locs G => ?_)
  refine lv_astore (lv' := [(6, .ref q9), (0, .ref (ad 0)), (1, .int (nI n)), (2, .int y), (3, .int p0), (4, .int c0), (5, .int t0)]) hx hb dL_send_22 hl (by decide) rfl (fun ls hl => ?_)
  refine lv_bipush (v := (-4)) hx hb dL_send_24 (by decide) ?_
  exact vx_ret (x_aendi hA B G (⟨rfl, rfl, rfl, rfl⟩) (by decide) (by decide) dL_send_26)
set_option maxHeartbeats 1000000 in
set_option maxRecDepth 100000 in
theorem w_send_ok (l : Launch) {D : va_G} {sh : xS} {ad : Nat → Nat} {cI cZ cO : ClassId} {tys : List (ClassId × FieldType)} {mi e0 : Nat} {sa : Nat → Nat} {nb : Nat} {od : Nat → Nat} (DW : xDw sh ad cI cZ cO tys e0 nb od) (V : xV) (h4 : V 4 2 = nI nb) (h5 : V 5 2 = nI nb) (n : Nat) (y p0 c0 t0 : Int32) (hn : n < 8) (hy7 : 0 ≤ y ∧ y ≤ 7) (h : nI n ≠ y ∧ (0 ≤ p0 ∧ p0 ≤ 2) ∧ (1 ≤ c0 ∧ c0 ≤ 64) ∧ (1 ≤ t0 ∧ t0 ≤ 10000)) (h40 : nb < 40) (hr : cRoomB V od n p0 nb = true) : xMw l yL_send wsL_send D sh ad tys mi e0 sa V [.ref (ad 0), .int (nI n), .int y, .int p0, .int c0, .int t0] (fun v sh' ad' V' => ∃ P, v = some (.int (nI nb)) ∧ P ≤ nb ∧ xDw sh' ad' cI cZ cO tys e0 (nb + 1) (insOd od P nb) ∧ ad' 0 = ad 0 ∧ (∀ i, 16 ≤ i → i < 20 → sh' i = sh i ∧ ad' i = ad i) ∧ (∀ j, j < P → ¬ bBef V' (20 + 4 * nb) (20 + 4 * od j) = true) ∧ (P < nb → bBef V' (20 + 4 * nb) (20 + 4 * od P) = true) ∧ (∀ j, j < 20 + 4 * nb → j ≠ 4 → j ≠ 5 → V' j = cRoomV V od n p0 nb j) ∧ V' 4 2 = nI (nb + 1) ∧ V' 5 2 = nI (nb + 1) ∧ V' (20 + 4 * nb) = upd (upd (upd (upd (upd (upd (upd (upd (upd (fun _ => 0) 0 (nI nb)) 1 y) 2 p0) 3 (V 0 0 + t0)) 7 (-1)) 8 (-1)) 9 0) 10 (-1)) 7 (nI n) ∧ V' (20 + 4 * nb + 1) = upd (fun _ => 0) n c0 ∧ V' (20 + 4 * nb + 2) = upd (fun _ => 0) n 0 ∧ V' (20 + 4 * nb + 3) = (fun _ => 0)) := by
  have DL := DW.dl
  refine xOfw (cc := cL_send) (nL := 7) (ret := some .int) (hh := [(0, 11, 12, 15), (0, 11, 17, 17), (0, 11, 22, 19)]) (own := RL) (by decide) rfl rfl (Nat.le_of_ble_eq_true rfl) DL.2.2.2.2.2.2.1.2.2 ?_
  intro p e s m args below meth c A ls hA htab B E F hN G hl
  have hx := B.1.1
  have hb := B.1.2.1
  have hl : lv_has ls 7 [(0, .ref (ad 0)), (1, .int (nI n)), (2, .int y), (3, .int p0), (4, .int c0), (5, .int t0)] := hl
  refine lv_aload_n hx hb dL_send_0 rfl (lv_at hl 0 rfl) ?_
  refine lv_iload_n hx hb dL_send_1 rfl (lv_at hl 1 rfl) ?_
  refine lv_iload_n hx hb dL_send_2 rfl (lv_at hl 2 rfl) ?_
  refine lv_iload_n hx hb dL_send_3 rfl (lv_at hl 3 rfl) ?_
  refine lv_iload hx hb dL_send_4 (lv_at hl 4 rfl) ?_
  refine lv_iload hx hb dL_send_6 (lv_at hl 5 rfl) ?_
  refine x_callVa (rest := []) B E G (c_X2_send_ok l DW V h4 h5 n y p0 c0 t0 hn hy7 h h40 hr) (cwV 5 B.1.2.2.2.2 gL_send_X2_send rfl rfl rfl (by decide +kernel) ⟨Nat.le_of_ble_eq_true rfl, Nat.le_of_ble_eq_true rfl⟩) (d_recv B G DL.1) rfl hl.1 rfl (Nat.le_of_ble_eq_true rfl) ⟨Nat.le_of_ble_eq_true rfl, Nat.le_of_ble_eq_true rfl⟩ dL_send_8 (fun v sh2 ad2 V2 H locs hR B G => ?_)
  obtain ⟨P, rfl, r4⟩ := hR
  refine W.eq (g2 := F0 m 11 ls [.int (nI nb)]) rfl ?_
  exact vx_ret (x_aendi hA B G (⟨P, rfl, r4⟩) (by decide) (by decide) dL_send_11)
