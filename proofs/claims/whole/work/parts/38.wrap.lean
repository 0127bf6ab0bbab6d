set_option maxHeartbeats 1000000 in
set_option maxRecDepth 100000 in
theorem w_endOf_ok (l : Launch) {D : va_G} {sh : xS} {ad : Nat → Nat} {cI cZ cO cJ : ClassId} {tys : List (ClassId × FieldType)} {mi e0 : Nat} {sa : Nat → Nat} {nb : Nat} {od : Nat → Nat} (DW : xDw sh ad cI cZ cO tys e0 nb od) (h16 : sh 16 = some (oMk cJ)) (hT3 : tys[3]? = some (cJ, .long)) (V : xV) (h4 : V 4 2 = nI nb) (h5 : V 5 2 = nI nb) (k : Nat) (hk : k < nb) : xMw l yL_endOf wsL_endOf D sh ad tys mi e0 sa V [.ref (ad 0), .int (nI k), .ref (ad 16)] (fun v sh' ad' V' => v = some (.int 0) ∧ sh' = sh ∧ ad' = ad ∧ V' = xu V 16 0 (V (20 + 4 * k) 3)) := by
  have DL := DW.dl
  refine xOfw (cc := cL_endOf) (nL := 4) (ret := some .int) (hh := [(0, 9, 12, 13)]) (own := RL) (by decide) rfl rfl (Nat.le_of_ble_eq_true rfl) DL.2.2.2.2.2.2.1.2.2 ?_
  intro p e s m args below meth c A ls hA htab B E F hN G hl
  have hx := B.1.1
  have hb := B.1.2.1
  have hl : lv_has ls 4 [(0, .ref (ad 0)), (1, .int (nI k)), (2, .ref (ad 16))] := hl
  refine lv_aload_n hx hb dL_endOf_0 rfl (lv_at hl 2 rfl) ?_
  refine lv_iconst (v := 0) hx hb dL_endOf_1 (by decide) ?_
  refine lv_aload_n hx hb dL_endOf_2 rfl (lv_at hl 0 rfl) ?_
  refine lv_iload_n hx hb dL_endOf_3 rfl (lv_at hl 1 rfl) ?_
  refine x_callVi (rest := [.int 0, .ref (ad 16)]) B G (c_X2_endOf_ok l DL V h4 h5 k hk) (cwV 1 B.1.2.2.2.2 gL_endOf_X2_endOf rfl rfl rfl (by decide +kernel) ⟨Nat.le_of_ble_eq_true rfl, Nat.le_of_ble_eq_true rfl⟩) (d_recv B G DL.1) rfl hl.1 rfl (Nat.le_of_ble_eq_true rfl) ⟨Nat.zero_le _, Nat.zero_le _⟩ dL_endOf_4 (fun H locs G => ?_)
  refine lv_i2l hx hb dL_endOf_7 rfl ?_
  refine x_lst (x := (V (20 + 4 * k) 3)) B G h16 hT3 (by first | rfl | decide) dL_endOf_8 (fun H locs G => ?_)
  refine lv_goto (tgt := 15) hx hb dL_endOf_9 (by decide) ?_
  refine lv_iconst (v := 0) hx hb dL_endOf_15 (by decide) ?_
  exact vx_ret (x_aendi hA B G (⟨rfl, rfl, rfl, rfl⟩) (by decide) (by decide) dL_endOf_16)
set_option maxHeartbeats 1000000 in
set_option maxRecDepth 100000 in
theorem w_deliveredAt_ok (l : Launch) {D : va_G} {sh : xS} {ad : Nat → Nat} {cI cZ cO cJ : ClassId} {tys : List (ClassId × FieldType)} {mi e0 : Nat} {sa : Nat → Nat} {nb : Nat} {od : Nat → Nat} (DW : xDw sh ad cI cZ cO tys e0 nb od) (h16 : sh 16 = some (oMk cJ)) (hT3 : tys[3]? = some (cJ, .long)) (V : xV) (h4 : V 4 2 = nI nb) (h5 : V 5 2 = nI nb) (k : Nat) (hk : k < nb) : xMw l yL_deliveredAt wsL_deliveredAt D sh ad tys mi e0 sa V [.ref (ad 0), .int (nI k), .ref (ad 16)] (fun v sh' ad' V' => v = some (.int 0) ∧ sh' = sh ∧ ad' = ad ∧ V' = xu V 16 0 (V (20 + 4 * k) 8)) := by
  have DL := DW.dl
  refine xOfw (cc := cL_deliveredAt) (nL := 4) (ret := some .int) (hh := [(0, 9, 12, 13)]) (own := RL) (by decide) rfl rfl (Nat.le_of_ble_eq_true rfl) DL.2.2.2.2.2.2.1.2.2 ?_
  intro p e s m args below meth c A ls hA htab B E F hN G hl
  have hx := B.1.1
  have hb := B.1.2.1
  have hl : lv_has ls 4 [(0, .ref (ad 0)), (1, .int (nI k)), (2, .ref (ad 16))] := hl
  refine lv_aload_n hx hb dL_deliveredAt_0 rfl (lv_at hl 2 rfl) ?_
  refine lv_iconst (v := 0) hx hb dL_deliveredAt_1 (by decide) ?_
  refine lv_aload_n hx hb dL_deliveredAt_2 rfl (lv_at hl 0 rfl) ?_
  refine lv_iload_n hx hb dL_deliveredAt_3 rfl (lv_at hl 1 rfl) ?_
  refine x_callVi (rest := [.int 0, .ref (ad 16)]) B G (c_X2_deliveredAt_ok l DL V h4 h5 k hk) (cwV 1 B.1.2.2.2.2 gL_deliveredAt_X2_deliveredAt rfl rfl rfl (by decide +kernel) ⟨Nat.le_of_ble_eq_true rfl, Nat.le_of_ble_eq_true rfl⟩) (d_recv B G DL.1) rfl hl.1 rfl (Nat.le_of_ble_eq_true rfl) ⟨Nat.zero_le _, Nat.zero_le _⟩ dL_deliveredAt_4 (fun H locs G => ?_)
  refine lv_i2l hx hb dL_deliveredAt_7 rfl ?_
  refine x_lst (x := (V (20 + 4 * k) 8)) B G h16 hT3 (by first | rfl | decide) dL_deliveredAt_8 (fun H locs G => ?_)
  refine lv_goto (tgt := 15) hx hb dL_deliveredAt_9 (by decide) ?_
  refine lv_iconst (v := 0) hx hb dL_deliveredAt_15 (by decide) ?_
  exact vx_ret (x_aendi hA B G (⟨rfl, rfl, rfl, rfl⟩) (by decide) (by decide) dL_deliveredAt_16)
set_option maxHeartbeats 1000000 in
set_option maxRecDepth 100000 in
theorem w_hops_ok (l : Launch) {D : va_G} {sh : xS} {ad : Nat → Nat} {cI cZ cO cJ : ClassId} {tys : List (ClassId × FieldType)} {mi e0 : Nat} {sa : Nat → Nat} {nb : Nat} {od : Nat → Nat} (DW : xDw sh ad cI cZ cO tys e0 nb od) (h16 : sh 16 = some (oMk cJ)) (hT3 : tys[3]? = some (cJ, .long)) (V : xV) (h4 : V 4 2 = nI nb) (h5 : V 5 2 = nI nb) (k : Nat) (hk : k < nb) : xMw l yL_hops wsL_hops D sh ad tys mi e0 sa V [.ref (ad 0), .int (nI k), .ref (ad 16)] (fun v sh' ad' V' => v = some (.int 0) ∧ sh' = sh ∧ ad' = ad ∧ V' = xu V 16 0 (V (20 + 4 * k) 9)) := by
  have DL := DW.dl
  refine xOfw (cc := cL_hops) (nL := 4) (ret := some .int) (hh := [(0, 9, 12, 13)]) (own := RL) (by decide) rfl rfl (Nat.le_of_ble_eq_true rfl) DL.2.2.2.2.2.2.1.2.2 ?_
  intro p e s m args below meth c A ls hA htab B E F hN G hl
  have hx := B.1.1
  have hb := B.1.2.1
  have hl : lv_has ls 4 [(0, .ref (ad 0)), (1, .int (nI k)), (2, .ref (ad 16))] := hl
  refine lv_aload_n hx hb dL_hops_0 rfl (lv_at hl 2 rfl) ?_
  refine lv_iconst (v := 0) hx hb dL_hops_1 (by decide) ?_
  refine lv_aload_n hx hb dL_hops_2 rfl (lv_at hl 0 rfl) ?_
  refine lv_iload_n hx hb dL_hops_3 rfl (lv_at hl 1 rfl) ?_
  refine x_callVi (rest := [.int 0, .ref (ad 16)]) B G (c_X2_hops_ok l DL V h4 h5 k hk) (cwV 1 B.1.2.2.2.2 gL_hops_X2_hops rfl rfl rfl (by decide +kernel) ⟨Nat.le_of_ble_eq_true rfl, Nat.le_of_ble_eq_true rfl⟩) (d_recv B G DL.1) rfl hl.1 rfl (Nat.le_of_ble_eq_true rfl) ⟨Nat.zero_le _, Nat.zero_le _⟩ dL_hops_4 (fun H locs G => ?_)
  refine lv_i2l hx hb dL_hops_7 rfl ?_
  refine x_lst (x := (V (20 + 4 * k) 9)) B G h16 hT3 (by first | rfl | decide) dL_hops_8 (fun H locs G => ?_)
  refine lv_goto (tgt := 15) hx hb dL_hops_9 (by decide) ?_
  refine lv_iconst (v := 0) hx hb dL_hops_15 (by decide) ?_
  exact vx_ret (x_aendi hA B G (⟨rfl, rfl, rfl, rfl⟩) (by decide) (by decide) dL_hops_16)
set_option maxHeartbeats 1000000 in
set_option maxRecDepth 100000 in
theorem w_custodian_ok (l : Launch) {D : va_G} {sh : xS} {ad : Nat → Nat} {cI cZ cO cJ : ClassId} {tys : List (ClassId × FieldType)} {mi e0 : Nat} {sa : Nat → Nat} {nb : Nat} {od : Nat → Nat} (DW : xDw sh ad cI cZ cO tys e0 nb od) (h16 : sh 16 = some (oMk cJ)) (hT3 : tys[3]? = some (cJ, .long)) (V : xV) (h4 : V 4 2 = nI nb) (h5 : V 5 2 = nI nb) (k : Nat) (hk : k < nb) : xMw l yL_custodian wsL_custodian D sh ad tys mi e0 sa V [.ref (ad 0), .int (nI k), .ref (ad 16)] (fun v sh' ad' V' => v = some (.int 0) ∧ sh' = sh ∧ ad' = ad ∧ V' = xu V 16 0 (V (20 + 4 * k) 7)) := by
  have DL := DW.dl
  refine xOfw (cc := cL_custodian) (nL := 4) (ret := some .int) (hh := [(0, 9, 12, 13)]) (own := RL) (by decide) rfl rfl (Nat.le_of_ble_eq_true rfl) DL.2.2.2.2.2.2.1.2.2 ?_
  intro p e s m args below meth c A ls hA htab B E F hN G hl
  have hx := B.1.1
  have hb := B.1.2.1
  have hl : lv_has ls 4 [(0, .ref (ad 0)), (1, .int (nI k)), (2, .ref (ad 16))] := hl
  refine lv_aload_n hx hb dL_custodian_0 rfl (lv_at hl 2 rfl) ?_
  refine lv_iconst (v := 0) hx hb dL_custodian_1 (by decide) ?_
  refine lv_aload_n hx hb dL_custodian_2 rfl (lv_at hl 0 rfl) ?_
  refine lv_iload_n hx hb dL_custodian_3 rfl (lv_at hl 1 rfl) ?_
  refine x_callVi (rest := [.int 0, .ref (ad 16)]) B G (c_X2_custodian_ok l DL V h4 h5 k hk) (cwV 1 B.1.2.2.2.2 gL_custodian_X2_custodian rfl rfl rfl (by decide +kernel) ⟨Nat.le_of_ble_eq_true rfl, Nat.le_of_ble_eq_true rfl⟩) (d_recv B G DL.1) rfl hl.1 rfl (Nat.le_of_ble_eq_true rfl) ⟨Nat.zero_le _, Nat.zero_le _⟩ dL_custodian_4 (fun H locs G => ?_)
  refine lv_i2l hx hb dL_custodian_7 rfl ?_
  refine x_lst (x := (V (20 + 4 * k) 7)) B G h16 hT3 (by first | rfl | decide) dL_custodian_8 (fun H locs G => ?_)
  refine lv_goto (tgt := 15) hx hb dL_custodian_9 (by decide) ?_
  refine lv_iconst (v := 0) hx hb dL_custodian_15 (by decide) ?_
  exact vx_ret (x_aendi hA B G (⟨rfl, rfl, rfl, rfl⟩) (by decide) (by decide) dL_custodian_16)
set_option maxHeartbeats 1000000 in
set_option maxRecDepth 100000 in
theorem w_holders_ok (l : Launch) {D : va_G} {sh : xS} {ad : Nat → Nat} {cI cZ cO cJ : ClassId} {tys : List (ClassId × FieldType)} {mi e0 : Nat} {sa : Nat → Nat} {nb : Nat} {od : Nat → Nat} (DW : xDw sh ad cI cZ cO tys e0 nb od) (h16 : sh 16 = some (oMk cJ)) (hT3 : tys[3]? = some (cJ, .long)) (V : xV) (h4 : V 4 2 = nI nb) (h5 : V 5 2 = nI nb) (k : Nat) (hk : k < nb) : xMw l yL_holders wsL_holders D sh ad tys mi e0 sa V [.ref (ad 0), .int (nI k), .ref (ad 16)] (fun v sh' ad' V' => v = some (.int 0) ∧ sh' = sh ∧ ad' = ad ∧ V' = xu V 16 0 (cBits V (20 + 4 * k) 8)) := by
  have DL := DW.dl
  refine xOfw (cc := cL_holders) (nL := 4) (ret := some .int) (hh := [(0, 9, 12, 13)]) (own := RL) (by decide) rfl rfl (Nat.le_of_ble_eq_true rfl) DL.2.2.2.2.2.2.1.2.2 ?_
  intro p e s m args below meth c A ls hA htab B E F hN G hl
  have hx := B.1.1
  have hb := B.1.2.1
  have hl : lv_has ls 4 [(0, .ref (ad 0)), (1, .int (nI k)), (2, .ref (ad 16))] := hl
  refine lv_aload_n hx hb dL_holders_0 rfl (lv_at hl 2 rfl) ?_
  refine lv_iconst (v := 0) hx hb dL_holders_1 (by decide) ?_
  refine lv_aload_n hx hb dL_holders_2 rfl (lv_at hl 0 rfl) ?_
  refine lv_iload_n hx hb dL_holders_3 rfl (lv_at hl 1 rfl) ?_
  refine x_callVi (rest := [.int 0, .ref (ad 16)]) B G (c_X2_holders_ok l DL V h4 h5 k hk) (cwV 1 B.1.2.2.2.2 gL_holders_X2_holders rfl rfl rfl (by decide +kernel) ⟨Nat.le_of_ble_eq_true rfl, Nat.le_of_ble_eq_true rfl⟩) (d_recv B G DL.1) rfl hl.1 rfl (Nat.le_of_ble_eq_true rfl) ⟨Nat.zero_le _, Nat.zero_le _⟩ dL_holders_4 (fun H locs G => ?_)
  refine lv_i2l hx hb dL_holders_7 rfl ?_
  refine x_lst (x := (cBits V (20 + 4 * k) 8)) B G h16 hT3 (by first | rfl | decide) dL_holders_8 (fun H locs G => ?_)
  refine lv_goto (tgt := 15) hx hb dL_holders_9 (by decide) ?_
  refine lv_iconst (v := 0) hx hb dL_holders_15 (by decide) ?_
  exact vx_ret (x_aendi hA B G (⟨rfl, rfl, rfl, rfl⟩) (by decide) (by decide) dL_holders_16)
set_option maxHeartbeats 1000000 in
set_option maxRecDepth 100000 in
theorem w_endOf_bad (l : Launch) (hst : l.stackTraces = false) {D : va_G} {sh : xS} {ad : Nat → Nat} {cI cZ cO cJ : ClassId} {tys : List (ClassId × FieldType)} {mi e0 : Nat} {sa : Nat → Nat} {nb : Nat} {od : Nat → Nat} (DW : xDw sh ad cI cZ cO tys e0 nb od) (h16 : sh 16 = some (oMk cJ)) (hT3 : tys[3]? = some (cJ, .long)) (V : xV) (h4 : V 4 2 = nI nb) (h5 : V 5 2 = nI nb) (x : Int32) (h : ¬ (0 ≤ x ∧ x < nI nb)) : xMw l yL_endOf wsL_endOf D sh ad tys mi e0 sa V [.ref (ad 0), .int x, .ref (ad 16)] (fun v sh' ad' V' => v = some (.int 1) ∧ sh' = sh ∧ ad' = ad ∧ V' = V) := by
  have DL := DW.dl
  refine xOfw (cc := cL_endOf) (nL := 4) (ret := some .int) (hh := [(0, 9, 12, 13)]) (own := RL) (by decide) rfl rfl (Nat.le_of_ble_eq_true rfl) DL.2.2.2.2.2.2.1.2.2 ?_
  intro p e s m args below meth c A ls hA htab B E F hN G hl
  have hx := B.1.1
  have hb := B.1.2.1
  have hl : lv_has ls 4 [(0, .ref (ad 0)), (1, .int x), (2, .ref (ad 16))] := hl
  refine lv_aload_n hx hb dL_endOf_0 rfl (lv_at hl 2 rfl) ?_
  refine lv_iconst (v := 0) hx hb dL_endOf_1 (by decide) ?_
  refine lv_aload_n hx hb dL_endOf_2 rfl (lv_at hl 0 rfl) ?_
  refine lv_iload_n hx hb dL_endOf_3 rfl (lv_at hl 1 rfl) ?_
  refine x_callVc (rest := [.int 0, .ref (ad 16)]) B F G (c_X2_endOf_bad l hst DL V h4 h5 x h) (cwV 1 B.1.2.2.2.2 gL_endOf_X2_endOf rfl rfl rfl (by decide +kernel) ⟨Nat.le_of_ble_eq_true rfl, Nat.le_of_ble_eq_true rfl⟩) (d_recv B G DL.1) rfl hl.1 rfl (Nat.le_of_ble_eq_true rfl) ⟨Nat.le_of_ble_eq_true rfl, Nat.le_of_ble_eq_true rfl⟩ dL_endOf_4 [] ⟨0, 9, 12, 13⟩ [] htab (fun z hz => nomatch hz) (by decide) (by decide) (by decide +kernel) (by decide +kernel) (fun q9 H locs G => ?_)
  refine lv_astore_n (lv' := [(3, .ref q9), (0, .ref (ad 0)), (1, .int x), (2, .ref (ad 16))]) hx hb dL_endOf_12 rfl hl (by decide) rfl (fun ls hl => ?_)
  refine lv_iconst (v := 1) hx hb dL_endOf_13 (by decide) ?_
  exact vx_ret (x_aendi hA B G (⟨rfl, rfl, rfl, rfl⟩) (by decide) (by decide) dL_endOf_14)
set_option maxHeartbeats 1000000 in
set_option maxRecDepth 100000 in
theorem w_deliveredAt_bad (l : Launch) (hst : l.stackTraces = false) {D : va_G} {sh : xS} {ad : Nat → Nat} {cI cZ cO cJ : ClassId} {tys : List (ClassId × FieldType)} {mi e0 : Nat} {sa : Nat → Nat} {nb : Nat} {od : Nat → Nat} (DW : xDw sh ad cI cZ cO tys e0 nb od) (h16 : sh 16 = some (oMk cJ)) (hT3 : tys[3]? = some (cJ, .long)) (V : xV) (h4 : V 4 2 = nI nb) (h5 : V 5 2 = nI nb) (x : Int32) (h : ¬ (0 ≤ x ∧ x < nI nb)) : xMw l yL_deliveredAt wsL_deliveredAt D sh ad tys mi e0 sa V [.ref (ad 0), .int x, .ref (ad 16)] (fun v sh' ad' V' => v = some (.int 1) ∧ sh' = sh ∧ ad' = ad ∧ V' = V) := by
  have DL := DW.dl
  refine xOfw (cc := cL_deliveredAt) (nL := 4) (ret := some .int) (hh := [(0, 9, 12, 13)]) (own := RL) (by decide) rfl rfl (Nat.le_of_ble_eq_true rfl) DL.2.2.2.2.2.2.1.2.2 ?_
  intro p e s m args below meth c A ls hA htab B E F hN G hl
  have hx := B.1.1
  have hb := B.1.2.1
  have hl : lv_has ls 4 [(0, .ref (ad 0)), (1, .int x), (2, .ref (ad 16))] := hl
  refine lv_aload_n hx hb dL_deliveredAt_0 rfl (lv_at hl 2 rfl) ?_
  refine lv_iconst (v := 0) hx hb dL_deliveredAt_1 (by decide) ?_
  refine lv_aload_n hx hb dL_deliveredAt_2 rfl (lv_at hl 0 rfl) ?_
  refine lv_iload_n hx hb dL_deliveredAt_3 rfl (lv_at hl 1 rfl) ?_
  refine x_callVc (rest := [.int 0, .ref (ad 16)]) B F G (c_X2_deliveredAt_bad l hst DL V h4 h5 x h) (cwV 1 B.1.2.2.2.2 gL_deliveredAt_X2_deliveredAt rfl rfl rfl (by decide +kernel) ⟨Nat.le_of_ble_eq_true rfl, Nat.le_of_ble_eq_true rfl⟩) (d_recv B G DL.1) rfl hl.1 rfl (Nat.le_of_ble_eq_true rfl) ⟨Nat.le_of_ble_eq_true rfl, Nat.le_of_ble_eq_true rfl⟩ dL_deliveredAt_4 [] ⟨0, 9, 12, 13⟩ [] htab (fun z hz => nomatch hz) (by decide) (by decide) (by decide +kernel) (by decide +kernel) (fun q9 H locs G => ?_)
  refine lv_astore_n (lv' := [(3, .ref q9), (0, .ref (ad 0)), (1, .int x), (2, .ref (ad 16))]) hx hb dL_deliveredAt_12 rfl hl (by decide) rfl (fun ls hl => ?_)
  refine lv_iconst (v := 1) hx hb dL_deliveredAt_13 (by decide) ?_
  exact vx_ret (x_aendi hA B G (⟨rfl, rfl, rfl, rfl⟩) (by decide) (by decide) dL_deliveredAt_14)
set_option maxHeartbeats 1000000 in
set_option maxRecDepth 100000 in
theorem w_hops_bad (l : Launch) (hst : l.stackTraces = false) {D : va_G} {sh : xS} {ad : Nat → Nat} {cI cZ cO cJ : ClassId} {tys : List (ClassId × FieldType)} {mi e0 : Nat} {sa : Nat → Nat} {nb : Nat} {od : Nat → Nat} (DW : xDw sh ad cI cZ cO tys e0 nb od) (h16 : sh 16 = some (oMk cJ)) (hT3 : tys[3]? = some (cJ, .long)) (V : xV) (h4 : V 4 2 = nI nb) (h5 : V 5 2 = nI nb) (x : Int32) (h : ¬ (0 ≤ x ∧ x < nI nb)) : xMw l yL_hops wsL_hops D sh ad tys mi e0 sa V [.ref (ad 0), .int x, .ref (ad 16)] (fun v sh' ad' V' => v = some (.int 1) ∧ sh' = sh ∧ ad' = ad ∧ V' = V) := by
  have DL := DW.dl
  refine xOfw (cc := cL_hops) (nL := 4) (ret := some .int) (hh := [(0, 9, 12, 13)]) (own := RL) (by decide) rfl rfl (Nat.le_of_ble_eq_true rfl) DL.2.2.2.2.2.2.1.2.2 ?_
  intro p e s m args below meth c A ls hA htab B E F hN G hl
  have hx := B.1.1
  have hb := B.1.2.1
  have hl : lv_has ls 4 [(0, .ref (ad 0)), (1, .int x), (2, .ref (ad 16))] := hl
  refine lv_aload_n hx hb dL_hops_0 rfl (lv_at hl 2 rfl) ?_
  refine lv_iconst (v := 0) hx hb dL_hops_1 (by decide) ?_
  refine lv_aload_n hx hb dL_hops_2 rfl (lv_at hl 0 rfl) ?_
  refine lv_iload_n hx hb dL_hops_3 rfl (lv_at hl 1 rfl) ?_
  refine x_callVc (rest := [.int 0, .ref (ad 16)]) B F G (c_X2_hops_bad l hst DL V h4 h5 x h) (cwV 1 B.1.2.2.2.2 gL_hops_X2_hops rfl rfl rfl (by decide +kernel) ⟨Nat.le_of_ble_eq_true rfl, Nat.le_of_ble_eq_true rfl⟩) (d_recv B G DL.1) rfl hl.1 rfl (Nat.le_of_ble_eq_true rfl) ⟨Nat.le_of_ble_eq_true rfl, Nat.le_of_ble_eq_true rfl⟩ dL_hops_4 [] ⟨0, 9, 12, 13⟩ [] htab (fun z hz => nomatch hz) (by decide) (by decide) (by decide +kernel) (by decide +kernel) (fun q9 H locs G => ?_)
  refine lv_astore_n (lv' := [(3, .ref q9), (0, .ref (ad 0)), (1, .int x), (2, .ref (ad 16))]) hx hb dL_hops_12 rfl hl (by decide) rfl (fun ls hl => ?_)
  refine lv_iconst (v := 1) hx hb dL_hops_13 (by decide) ?_
  exact vx_ret (x_aendi hA B G (⟨rfl, rfl, rfl, rfl⟩) (by decide) (by decide) dL_hops_14)
set_option maxHeartbeats 1000000 in
set_option maxRecDepth 100000 in
theorem w_custodian_bad (l : Launch) (hst : l.stackTraces = false) {D : va_G} {sh : xS} {ad : Nat → Nat} {cI cZ cO cJ : ClassId} {tys : List (ClassId × FieldType)} {mi e0 : Nat} {sa : Nat → Nat} {nb : Nat} {od : Nat → Nat} (DW : xDw sh ad cI cZ cO tys e0 nb od) (h16 : sh 16 = some (oMk cJ)) (hT3 : tys[3]? = some (cJ, .long)) (V : xV) (h4 : V 4 2 = nI nb) (h5 : V 5 2 = nI nb) (x : Int32) (h : ¬ (0 ≤ x ∧ x < nI nb)) : xMw l yL_custodian wsL_custodian D sh ad tys mi e0 sa V [.ref (ad 0), .int x, .ref (ad 16)] (fun v sh' ad' V' => v = some (.int 1) ∧ sh' = sh ∧ ad' = ad ∧ V' = V) := by
  have DL := DW.dl
  refine xOfw (cc := cL_custodian) (nL := 4) (ret := some .int) (hh := [(0, 9, 12, 13)]) (own := RL) (by decide) rfl rfl (Nat.le_of_ble_eq_true rfl) DL.2.2.2.2.2.2.1.2.2 ?_
  intro p e s m args below meth c A ls hA htab B E F hN G hl
  have hx := B.1.1
  have hb := B.1.2.1
  have hl : lv_has ls 4 [(0, .ref (ad 0)), (1, .int x), (2, .ref (ad 16))] := hl
  refine lv_aload_n hx hb dL_custodian_0 rfl (lv_at hl 2 rfl) ?_
  refine lv_iconst (v := 0) hx hb dL_custodian_1 (by decide) ?_
  refine lv_aload_n hx hb dL_custodian_2 rfl (lv_at hl 0 rfl) ?_
  refine lv_iload_n hx hb dL_custodian_3 rfl (lv_at hl 1 rfl) ?_
  refine x_callVc (rest := [.int 0, .ref (ad 16)]) B F G (c_X2_custodian_bad l hst DL V h4 h5 x h) (cwV 1 B.1.2.2.2.2 gL_custodian_X2_custodian rfl rfl rfl (by decide +kernel) ⟨Nat.le_of_ble_eq_true rfl, Nat.le_of_ble_eq_true rfl⟩) (d_recv B G DL.1) rfl hl.1 rfl (Nat.le_of_ble_eq_true rfl) ⟨Nat.le_of_ble_eq_true rfl, Nat.le_of_ble_eq_true rfl⟩ dL_custodian_4 [] ⟨0, 9, 12, 13⟩ [] htab (fun z hz => nomatch hz) (by decide) (by decide) (by decide +kernel) (by decide +kernel) (fun q9 H locs G => ?_)
  refine lv_astore_n (lv' := [(3, .ref q9), (0, .ref (ad 0)), (1, .int x), (2, .ref (ad 16))]) hx hb dL_custodian_12 rfl hl (by decide) rfl (fun ls hl => ?_)
  refine lv_iconst (v := 1) hx hb dL_custodian_13 (by decide) ?_
  exact vx_ret (x_aendi hA B G (⟨rfl, rfl, rfl, rfl⟩) (by decide) (by decide) dL_custodian_14)
set_option maxHeartbeats 1000000 in
set_option maxRecDepth 100000 in
theorem w_holders_bad (l : Launch) (hst : l.stackTraces = false) {D : va_G} {sh : xS} {ad : Nat → Nat} {cI cZ cO cJ : ClassId} {tys : List (ClassId × FieldType)} {mi e0 : Nat} {sa : Nat → Nat} {nb : Nat} {od : Nat → Nat} (DW : xDw sh ad cI cZ cO tys e0 nb od) (h16 : sh 16 = some (oMk cJ)) (hT3 : tys[3]? = some (cJ, .long)) (V : xV) (h4 : V 4 2 = nI nb) (h5 : V 5 2 = nI nb) (x : Int32) (h : ¬ (0 ≤ x ∧ x < nI nb)) : xMw l yL_holders wsL_holders D sh ad tys mi e0 sa V [.ref (ad 0), .int x, .ref (ad 16)] (fun v sh' ad' V' => v = some (.int 1) ∧ sh' = sh ∧ ad' = ad ∧ V' = V) := by
  have DL := DW.dl
  refine xOfw (cc := cL_holders) (nL := 4) (ret := some .int) (hh := [(0, 9, 12, 13)]) (own := RL) (by decide) rfl rfl (Nat.le_of_ble_eq_true rfl) DL.2.2.2.2.2.2.1.2.2 ?_
  intro p e s m args below meth c A ls hA htab B E F hN G hl
  have hx := B.1.1
  have hb := B.1.2.1
  have hl : lv_has ls 4 [(0, .ref (ad 0)), (1, .int x), (2, .ref (ad 16))] := hl
  refine lv_aload_n hx hb dL_holders_0 rfl (lv_at hl 2 rfl) ?_
  refine lv_iconst (v := 0) hx hb dL_holders_1 (by decide) ?_
  refine lv_aload_n hx hb dL_holders_2 rfl (lv_at hl 0 rfl) ?_
  refine lv_iload_n hx hb dL_holders_3 rfl (lv_at hl 1 rfl) ?_
  refine x_callVc (rest := [.int 0, .ref (ad 16)]) B F G (c_X2_holders_bad l hst DL V h4 h5 x h) (cwV 1 B.1.2.2.2.2 gL_holders_X2_holders rfl rfl rfl (by decide +kernel) ⟨Nat.le_of_ble_eq_true rfl, Nat.le_of_ble_eq_true rfl⟩) (d_recv B G DL.1) rfl hl.1 rfl (Nat.le_of_ble_eq_true rfl) ⟨Nat.le_of_ble_eq_true rfl, Nat.le_of_ble_eq_true rfl⟩ dL_holders_4 [] ⟨0, 9, 12, 13⟩ [] htab (fun z hz => nomatch hz) (by decide) (by decide) (by decide +kernel) (by decide +kernel) (fun q9 H locs G => ?_)
  refine lv_astore_n (lv' := [(3, .ref q9), (0, .ref (ad 0)), (1, .int x), (2, .ref (ad 16))]) hx hb dL_holders_12 rfl hl (by decide) rfl (fun ls hl => ?_)
  refine lv_iconst (v := 1) hx hb dL_holders_13 (by decide) ?_
  exact vx_ret (x_aendi hA B G (⟨rfl, rfl, rfl, rfl⟩) (by decide) (by decide) dL_holders_14)
set_option maxHeartbeats 1000000 in
set_option maxRecDepth 100000 in
theorem w_promised_bad (l : Launch) (hst : l.stackTraces = false) {D : va_G} {sh : xS} {ad : Nat → Nat} {cI cZ cO cJ : ClassId} {tys : List (ClassId × FieldType)} {mi e0 : Nat} {sa : Nat → Nat} {nb : Nat} {od : Nat → Nat} (DW : xDw sh ad cI cZ cO tys e0 nb od) (h16 : sh 16 = some (oMk cJ)) (hT3 : tys[3]? = some (cJ, .long)) (V : xV) (h4 : V 4 2 = nI nb) (h5 : V 5 2 = nI nb) (x : Int32) (h : ¬ (0 ≤ x ∧ x < nI nb)) : xMw l yL_promised wsL_promised D sh ad tys mi e0 sa V [.ref (ad 0), .int x, .ref (ad 16)] (fun v sh' ad' V' => v = some (.int 1) ∧ sh' = sh ∧ ad' = ad ∧ V' = V) := by
  have DL := DW.dl
  refine xOfw (cc := cL_promised) (nL := 4) (ret := some .int) (hh := [(0, 9, 12, 13)]) (own := RL) (by decide) rfl rfl (Nat.le_of_ble_eq_true rfl) DL.2.2.2.2.2.2.1.2.2 ?_
  intro p e s m args below meth c A ls hA htab B E F hN G hl
  have hx := B.1.1
  have hb := B.1.2.1
  have hl : lv_has ls 4 [(0, .ref (ad 0)), (1, .int x), (2, .ref (ad 16))] := hl
  refine lv_aload_n hx hb dL_promised_0 rfl (lv_at hl 2 rfl) ?_
  refine lv_iconst (v := 0) hx hb dL_promised_1 (by decide) ?_
  refine lv_aload_n hx hb dL_promised_2 rfl (lv_at hl 0 rfl) ?_
  refine lv_iload_n hx hb dL_promised_3 rfl (lv_at hl 1 rfl) ?_
  refine x_callVc (rest := [.int 0, .ref (ad 16)]) B F G (c_X2_promised_bad l hst DL V h4 h5 x h) (cwV 1 B.1.2.2.2.2 gL_promised_X2_promised rfl rfl rfl (by decide +kernel) ⟨Nat.le_of_ble_eq_true rfl, Nat.le_of_ble_eq_true rfl⟩) (d_recv B G DL.1) rfl hl.1 rfl (Nat.le_of_ble_eq_true rfl) ⟨Nat.le_of_ble_eq_true rfl, Nat.le_of_ble_eq_true rfl⟩ dL_promised_4 [] ⟨0, 9, 12, 13⟩ [] htab (fun z hz => nomatch hz) (by decide) (by decide) (by decide +kernel) (by decide +kernel) (fun q9 H locs G => ?_)
  refine lv_astore_n (lv' := [(3, .ref q9), (0, .ref (ad 0)), (1, .int x), (2, .ref (ad 16))]) hx hb dL_promised_12 rfl hl (by decide) rfl (fun ls hl => ?_)
  refine lv_iconst (v := 1) hx hb dL_promised_13 (by decide) ?_
  exact vx_ret (x_aendi hA B G (⟨rfl, rfl, rfl, rfl⟩) (by decide) (by decide) dL_promised_14)
set_option maxHeartbeats 1000000 in
set_option maxRecDepth 100000 in
theorem w_copies_ok (l : Launch) {D : va_G} {sh : xS} {ad : Nat → Nat} {cI cZ cO cJ : ClassId} {tys : List (ClassId × FieldType)} {mi e0 : Nat} {sa : Nat → Nat} {nb : Nat} {od : Nat → Nat} (DW : xDw sh ad cI cZ cO tys e0 nb od) (h16 : sh 16 = some (oMk cJ)) (hT3 : tys[3]? = some (cJ, .long)) (V : xV) (h4 : V 4 2 = nI nb) (h5 : V 5 2 = nI nb) (n k : Nat) (hn : n < 8) (hk : k < nb) : xMw l yL_copies wsL_copies D sh ad tys mi e0 sa V [.ref (ad 0), .int (nI n), .int (nI k), .ref (ad 16)] (fun v sh' ad' V' => v = some (.int 0) ∧ sh' = sh ∧ ad' = ad ∧ V' = xu V 16 0 (V (20 + 4 * k + 1) n)) := by
  have DL := DW.dl
  refine xOfw (cc := cL_copies) (nL := 5) (ret := some .int) (hh := [(0, 10, 13, 13)]) (own := RL) (by decide) rfl rfl (Nat.le_of_ble_eq_true rfl) DL.2.2.2.2.2.2.1.2.2 ?_
  intro p e s m args below meth c A ls hA htab B E F hN G hl
  have hx := B.1.1
  have hb := B.1.2.1
  have hl : lv_has ls 5 [(0, .ref (ad 0)), (1, .int (nI n)), (2, .int (nI k)), (3, .ref (ad 16))] := hl
  refine lv_aload_n hx hb dL_copies_0 rfl (lv_at hl 3 rfl) ?_
  refine lv_iconst (v := 0) hx hb dL_copies_1 (by decide) ?_
  refine lv_aload_n hx hb dL_copies_2 rfl (lv_at hl 0 rfl) ?_
  refine lv_iload_n hx hb dL_copies_3 rfl (lv_at hl 1 rfl) ?_
  refine lv_iload_n hx hb dL_copies_4 rfl (lv_at hl 2 rfl) ?_
  refine x_callVi (rest := [.int 0, .ref (ad 16)]) B G (c_X2_copies_ok l DL V h4 h5 n k hn hk) (cwV 2 B.1.2.2.2.2 gL_copies_X2_copies rfl rfl rfl (by decide +kernel) ⟨Nat.le_of_ble_eq_true rfl, Nat.le_of_ble_eq_true rfl⟩) (d_recv B G DL.1) rfl hl.1 rfl (Nat.le_of_ble_eq_true rfl) ⟨Nat.zero_le _, Nat.zero_le _⟩ dL_copies_5 (fun H locs G => ?_)
  refine lv_i2l hx hb dL_copies_8 rfl ?_
  refine x_lst (x := (V (20 + 4 * k + 1) n)) B G h16 hT3 (by first | rfl | decide) dL_copies_9 (fun H locs G => ?_)
  refine lv_goto (tgt := 17) hx hb dL_copies_10 (by decide) ?_
  refine lv_iconst (v := 0) hx hb dL_copies_17 (by decide) ?_
  exact vx_ret (x_aendi hA B G (⟨rfl, rfl, rfl, rfl⟩) (by decide) (by decide) dL_copies_18)
set_option maxHeartbeats 1000000 in
set_option maxRecDepth 100000 in
theorem w_copies_bad1 (l : Launch) (hst : l.stackTraces = false) {D : va_G} {sh : xS} {ad : Nat → Nat} {cI cZ cO cJ : ClassId} {tys : List (ClassId × FieldType)} {mi e0 : Nat} {sa : Nat → Nat} {nb : Nat} {od : Nat → Nat} (DW : xDw sh ad cI cZ cO tys e0 nb od) (h16 : sh 16 = some (oMk cJ)) (hT3 : tys[3]? = some (cJ, .long)) (V : xV) (h4 : V 4 2 = nI nb) (h5 : V 5 2 = nI nb) (x y : Int32) (h : ¬ (0 ≤ x ∧ x ≤ 7)) : xMw l yL_copies wsL_copies D sh ad tys mi e0 sa V [.ref (ad 0), .int x, .int y, .ref (ad 16)] (fun v sh' ad' V' => v = some (.int 1) ∧ sh' = sh ∧ ad' = ad ∧ V' = V) := by
  have DL := DW.dl
  refine xOfw (cc := cL_copies) (nL := 5) (ret := some .int) (hh := [(0, 10, 13, 13)]) (own := RL) (by decide) rfl rfl (Nat.le_of_ble_eq_true rfl) DL.2.2.2.2.2.2.1.2.2 ?_
  intro p e s m args below meth c A ls hA htab B E F hN G hl
  have hx := B.1.1
  have hb := B.1.2.1
  have hl : lv_has ls 5 [(0, .ref (ad 0)), (1, .int x), (2, .int y), (3, .ref (ad 16))] := hl
  refine lv_aload_n hx hb dL_copies_0 rfl (lv_at hl 3 rfl) ?_
  refine lv_iconst (v := 0) hx hb dL_copies_1 (by decide) ?_
  refine lv_aload_n hx hb dL_copies_2 rfl (lv_at hl 0 rfl) ?_
  refine lv_iload_n hx hb dL_copies_3 rfl (lv_at hl 1 rfl) ?_
  refine lv_iload_n hx hb dL_copies_4 rfl (lv_at hl 2 rfl) ?_
  refine x_callVc (rest := [.int 0, .ref (ad 16)]) B F G (c_X2_copies_bad1 l hst DL V h4 h5 x y h) (cwV 2 B.1.2.2.2.2 gL_copies_X2_copies rfl rfl rfl (by decide +kernel) ⟨Nat.le_of_ble_eq_true rfl, Nat.le_of_ble_eq_true rfl⟩) (d_recv B G DL.1) rfl hl.1 rfl (Nat.le_of_ble_eq_true rfl) ⟨Nat.le_of_ble_eq_true rfl, Nat.le_of_ble_eq_true rfl⟩ dL_copies_5 [] ⟨0, 10, 13, 13⟩ [] htab (fun z hz => nomatch hz) (by decide) (by decide) (by decide +kernel) (by decide +kernel) (fun q9 H locs G => ?_)
  refine lv_astore (lv' := [(4, .ref q9), (0, .ref (ad 0)), (1, .int x), (2, .int y), (3, .ref (ad 16))]) hx hb dL_copies_13 hl (by decide) rfl (fun ls hl => ?_)
  refine lv_iconst (v := 1) hx hb dL_copies_15 (by decide) ?_
  exact vx_ret (x_aendi hA B G (⟨rfl, rfl, rfl, rfl⟩) (by decide) (by decide) dL_copies_16)
set_option maxHeartbeats 1000000 in
set_option maxRecDepth 100000 in
theorem w_heldAt_bad1 (l : Launch) (hst : l.stackTraces = false) {D : va_G} {sh : xS} {ad : Nat → Nat} {cI cZ cO cJ : ClassId} {tys : List (ClassId × FieldType)} {mi e0 : Nat} {sa : Nat → Nat} {nb : Nat} {od : Nat → Nat} (DW : xDw sh ad cI cZ cO tys e0 nb od) (h16 : sh 16 = some (oMk cJ)) (hT3 : tys[3]? = some (cJ, .long)) (V : xV) (h4 : V 4 2 = nI nb) (h5 : V 5 2 = nI nb) (x y : Int32) (h : ¬ (0 ≤ x ∧ x ≤ 7)) : xMw l yL_heldAt wsL_heldAt D sh ad tys mi e0 sa V [.ref (ad 0), .int x, .int y, .ref (ad 16)] (fun v sh' ad' V' => v = some (.int 1) ∧ sh' = sh ∧ ad' = ad ∧ V' = V) := by
  have DL := DW.dl
  refine xOfw (cc := cL_heldAt) (nL := 5) (ret := some .int) (hh := [(0, 10, 13, 13)]) (own := RL) (by decide) rfl rfl (Nat.le_of_ble_eq_true rfl) DL.2.2.2.2.2.2.1.2.2 ?_
  intro p e s m args below meth c A ls hA htab B E F hN G hl
  have hx := B.1.1
  have hb := B.1.2.1
  have hl : lv_has ls 5 [(0, .ref (ad 0)), (1, .int x), (2, .int y), (3, .ref (ad 16))] := hl
  refine lv_aload_n hx hb dL_heldAt_0 rfl (lv_at hl 3 rfl) ?_
  refine lv_iconst (v := 0) hx hb dL_heldAt_1 (by decide) ?_
  refine lv_aload_n hx hb dL_heldAt_2 rfl (lv_at hl 0 rfl) ?_
  refine lv_iload_n hx hb dL_heldAt_3 rfl (lv_at hl 1 rfl) ?_
  refine lv_iload_n hx hb dL_heldAt_4 rfl (lv_at hl 2 rfl) ?_
  refine x_callVc (rest := [.int 0, .ref (ad 16)]) B F G (c_X2_heldAt_bad1 l hst DL V h4 h5 x y h) (cwV 2 B.1.2.2.2.2 gL_heldAt_X2_heldAt rfl rfl rfl (by decide +kernel) ⟨Nat.le_of_ble_eq_true rfl, Nat.le_of_ble_eq_true rfl⟩) (d_recv B G DL.1) rfl hl.1 rfl (Nat.le_of_ble_eq_true rfl) ⟨Nat.le_of_ble_eq_true rfl, Nat.le_of_ble_eq_true rfl⟩ dL_heldAt_5 [] ⟨0, 10, 13, 13⟩ [] htab (fun z hz => nomatch hz) (by decide) (by decide) (by decide +kernel) (by decide +kernel) (fun q9 H locs G => ?_)
  refine lv_astore (lv' := [(4, .ref q9), (0, .ref (ad 0)), (1, .int x), (2, .int y), (3, .ref (ad 16))]) hx hb dL_heldAt_13 hl (by decide) rfl (fun ls hl => ?_)
  refine lv_iconst (v := 1) hx hb dL_heldAt_15 (by decide) ?_
  exact vx_ret (x_aendi hA B G (⟨rfl, rfl, rfl, rfl⟩) (by decide) (by decide) dL_heldAt_16)
set_option maxHeartbeats 1000000 in
set_option maxRecDepth 100000 in
theorem w_arrival_bad1 (l : Launch) (hst : l.stackTraces = false) {D : va_G} {sh : xS} {ad : Nat → Nat} {cI cZ cO cJ : ClassId} {tys : List (ClassId × FieldType)} {mi e0 : Nat} {sa : Nat → Nat} {nb : Nat} {od : Nat → Nat} (DW : xDw sh ad cI cZ cO tys e0 nb od) (h16 : sh 16 = some (oMk cJ)) (hT3 : tys[3]? = some (cJ, .long)) (V : xV) (h4 : V 4 2 = nI nb) (h5 : V 5 2 = nI nb) (x y : Int32) (h : ¬ (0 ≤ x ∧ x ≤ 7)) : xMw l yL_arrival wsL_arrival D sh ad tys mi e0 sa V [.ref (ad 0), .int x, .int y, .ref (ad 16)] (fun v sh' ad' V' => v = some (.int 1) ∧ sh' = sh ∧ ad' = ad ∧ V' = V) := by
  have DL := DW.dl
  refine xOfw (cc := cL_arrival) (nL := 5) (ret := some .int) (hh := [(0, 10, 13, 13)]) (own := RL) (by decide) rfl rfl (Nat.le_of_ble_eq_true rfl) DL.2.2.2.2.2.2.1.2.2 ?_
  intro p e s m args below meth c A ls hA htab B E F hN G hl
  have hx := B.1.1
  have hb := B.1.2.1
  have hl : lv_has ls 5 [(0, .ref (ad 0)), (1, .int x), (2, .int y), (3, .ref (ad 16))] := hl
  refine lv_aload_n hx hb dL_arrival_0 rfl (lv_at hl 3 rfl) ?_
  refine lv_iconst (v := 0) hx hb dL_arrival_1 (by decide) ?_
  refine lv_aload_n hx hb dL_arrival_2 rfl (lv_at hl 0 rfl) ?_
  refine lv_iload_n hx hb dL_arrival_3 rfl (lv_at hl 1 rfl) ?_
  refine lv_iload_n hx hb dL_arrival_4 rfl (lv_at hl 2 rfl) ?_
  refine x_callVc (rest := [.int 0, .ref (ad 16)]) B F G (c_X2_arrival_bad1 l hst DL V h4 h5 x y h) (cwV 2 B.1.2.2.2.2 gL_arrival_X2_arrival rfl rfl rfl (by decide +kernel) ⟨Nat.le_of_ble_eq_true rfl, Nat.le_of_ble_eq_true rfl⟩) (d_recv B G DL.1) rfl hl.1 rfl (Nat.le_of_ble_eq_true rfl) ⟨Nat.le_of_ble_eq_true rfl, Nat.le_of_ble_eq_true rfl⟩ dL_arrival_5 [] ⟨0, 10, 13, 13⟩ [] htab (fun z hz => nomatch hz) (by decide) (by decide) (by decide +kernel) (by decide +kernel) (fun q9 H locs G => ?_)
  refine lv_astore (lv' := [(4, .ref q9), (0, .ref (ad 0)), (1, .int x), (2, .int y), (3, .ref (ad 16))]) hx hb dL_arrival_13 hl (by decide) rfl (fun ls hl => ?_)
  refine lv_iconst (v := 1) hx hb dL_arrival_15 (by decide) ?_
  exact vx_ret (x_aendi hA B G (⟨rfl, rfl, rfl, rfl⟩) (by decide) (by decide) dL_arrival_16)
set_option maxHeartbeats 1000000 in
set_option maxRecDepth 100000 in
theorem w_arrivalByRounds_bad1 (l : Launch) (hst : l.stackTraces = false) {D : va_G} {sh : xS} {ad : Nat → Nat} {cI cZ cO cJ : ClassId} {tys : List (ClassId × FieldType)} {mi e0 : Nat} {sa : Nat → Nat} {nb : Nat} {od : Nat → Nat} (DW : xDw sh ad cI cZ cO tys e0 nb od) (h16 : sh 16 = some (oMk cJ)) (hT3 : tys[3]? = some (cJ, .long)) (V : xV) (h4 : V 4 2 = nI nb) (h5 : V 5 2 = nI nb) (x y : Int32) (h : ¬ (0 ≤ x ∧ x ≤ 7)) : xMw l yL_arrivalByRounds wsL_arrivalByRounds D sh ad tys mi e0 sa V [.ref (ad 0), .int x, .int y, .ref (ad 16)] (fun v sh' ad' V' => v = some (.int 1) ∧ sh' = sh ∧ ad' = ad ∧ V' = V) := by
  have DL := DW.dl
  refine xOfw (cc := cL_arrivalByRounds) (nL := 5) (ret := some .int) (hh := [(0, 10, 13, 13)]) (own := RL) (by decide) rfl rfl (Nat.le_of_ble_eq_true rfl) DL.2.2.2.2.2.2.1.2.2 ?_
  intro p e s m args below meth c A ls hA htab B E F hN G hl
  have hx := B.1.1
  have hb := B.1.2.1
  have hl : lv_has ls 5 [(0, .ref (ad 0)), (1, .int x), (2, .int y), (3, .ref (ad 16))] := hl
  refine lv_aload_n hx hb dL_arrivalByRounds_0 rfl (lv_at hl 3 rfl) ?_
  refine lv_iconst (v := 0) hx hb dL_arrivalByRounds_1 (by decide) ?_
  refine lv_aload_n hx hb dL_arrivalByRounds_2 rfl (lv_at hl 0 rfl) ?_
  refine lv_iload_n hx hb dL_arrivalByRounds_3 rfl (lv_at hl 1 rfl) ?_
  refine lv_iload_n hx hb dL_arrivalByRounds_4 rfl (lv_at hl 2 rfl) ?_
  refine x_callVc (rest := [.int 0, .ref (ad 16)]) B F G (c_X2_arrivalByRounds_bad1 l hst DL V h4 h5 x y h) (cwV 2 B.1.2.2.2.2 gL_arrivalByRounds_X2_arrivalByRounds rfl rfl rfl (by decide +kernel) ⟨Nat.le_of_ble_eq_true rfl, Nat.le_of_ble_eq_true rfl⟩) (d_recv B G DL.1) rfl hl.1 rfl (Nat.le_of_ble_eq_true rfl) ⟨Nat.le_of_ble_eq_true rfl, Nat.le_of_ble_eq_true rfl⟩ dL_arrivalByRounds_5 [] ⟨0, 10, 13, 13⟩ [] htab (fun z hz => nomatch hz) (by decide) (by decide) (by decide +kernel) (by decide +kernel) (fun q9 H locs G => ?_)
  refine lv_astore (lv' := [(4, .ref q9), (0, .ref (ad 0)), (1, .int x), (2, .int y), (3, .ref (ad 16))]) hx hb dL_arrivalByRounds_13 hl (by decide) rfl (fun ls hl => ?_)
  refine lv_iconst (v := 1) hx hb dL_arrivalByRounds_15 (by decide) ?_
  exact vx_ret (x_aendi hA B G (⟨rfl, rfl, rfl, rfl⟩) (by decide) (by decide) dL_arrivalByRounds_16)
set_option maxHeartbeats 1000000 in
set_option maxRecDepth 100000 in
theorem w_knows_bad1 (l : Launch) (hst : l.stackTraces = false) {D : va_G} {sh : xS} {ad : Nat → Nat} {cI cZ cO cJ : ClassId} {tys : List (ClassId × FieldType)} {mi e0 : Nat} {sa : Nat → Nat} {nb : Nat} {od : Nat → Nat} (DW : xDw sh ad cI cZ cO tys e0 nb od) (h16 : sh 16 = some (oMk cJ)) (hT3 : tys[3]? = some (cJ, .long)) (V : xV) (h4 : V 4 2 = nI nb) (h5 : V 5 2 = nI nb) (x y : Int32) (h : ¬ (0 ≤ x ∧ x ≤ 7)) : xMw l yL_knows wsL_knows D sh ad tys mi e0 sa V [.ref (ad 0), .int x, .int y, .ref (ad 16)] (fun v sh' ad' V' => v = some (.int 1) ∧ sh' = sh ∧ ad' = ad ∧ V' = V) := by
  have DL := DW.dl
  refine xOfw (cc := cL_knows) (nL := 5) (ret := some .int) (hh := [(0, 17, 20, 13)]) (own := RL) (by decide) rfl rfl (Nat.le_of_ble_eq_true rfl) DL.2.2.2.2.2.2.1.2.2 ?_
  intro p e s m args below meth c A ls hA htab B E F hN G hl
  have hx := B.1.1
  have hb := B.1.2.1
  have hl : lv_has ls 5 [(0, .ref (ad 0)), (1, .int x), (2, .int y), (3, .ref (ad 16))] := hl
  refine lv_aload_n hx hb dL_knows_0 rfl (lv_at hl 3 rfl) ?_
  refine lv_iconst (v := 0) hx hb dL_knows_1 (by decide) ?_
  refine lv_aload_n hx hb dL_knows_2 rfl (lv_at hl 0 rfl) ?_
  refine lv_iload_n hx hb dL_knows_3 rfl (lv_at hl 1 rfl) ?_
  refine lv_iload_n hx hb dL_knows_4 rfl (lv_at hl 2 rfl) ?_
  refine x_callVc (rest := [.int 0, .ref (ad 16)]) B F G (c_X2_knows_bad1 l hst DL V h4 h5 x y h) (cwV 2 B.1.2.2.2.2 gL_knows_X2_knows rfl rfl rfl (by decide +kernel) ⟨Nat.le_of_ble_eq_true rfl, Nat.le_of_ble_eq_true rfl⟩) (d_recv B G DL.1) rfl hl.1 rfl (Nat.le_of_ble_eq_true rfl) ⟨Nat.le_of_ble_eq_true rfl, Nat.le_of_ble_eq_true rfl⟩ dL_knows_5 [] ⟨0, 17, 20, 13⟩ [] htab (fun z hz => nomatch hz) (by decide) (by decide) (by decide +kernel) (by decide +kernel) (fun q9 H locs G => ?_)
  refine lv_astore (lv' := [(4, .ref q9), (0, .ref (ad 0)), (1, .int x), (2, .int y), (3, .ref (ad 16))]) hx hb dL_knows_20 hl (by decide) rfl (fun ls hl => ?_)
  refine lv_iconst (v := 1) hx hb dL_knows_22 (by decide) ?_
  exact vx_ret (x_aendi hA B G (⟨rfl, rfl, rfl, rfl⟩) (by decide) (by decide) dL_knows_23)
set_option maxHeartbeats 1000000 in
set_option maxRecDepth 100000 in
theorem w_copies_bad2 (l : Launch) (hst : l.stackTraces = false) {D : va_G} {sh : xS} {ad : Nat → Nat} {cI cZ cO cJ : ClassId} {tys : List (ClassId × FieldType)} {mi e0 : Nat} {sa : Nat → Nat} {nb : Nat} {od : Nat → Nat} (DW : xDw sh ad cI cZ cO tys e0 nb od) (h16 : sh 16 = some (oMk cJ)) (hT3 : tys[3]? = some (cJ, .long)) (V : xV) (h4 : V 4 2 = nI nb) (h5 : V 5 2 = nI nb) (n : Nat) (hn : n < 8) (x : Int32) (h : ¬ (0 ≤ x ∧ x < nI nb)) : xMw l yL_copies wsL_copies D sh ad tys mi e0 sa V [.ref (ad 0), .int (nI n), .int x, .ref (ad 16)] (fun v sh' ad' V' => v = some (.int 1) ∧ sh' = sh ∧ ad' = ad ∧ V' = V) := by
  have DL := DW.dl
  refine xOfw (cc := cL_copies) (nL := 5) (ret := some .int) (hh := [(0, 10, 13, 13)]) (own := RL) (by decide) rfl rfl (Nat.le_of_ble_eq_true rfl) DL.2.2.2.2.2.2.1.2.2 ?_
  intro p e s m args below meth c A ls hA htab B E F hN G hl
  have hx := B.1.1
  have hb := B.1.2.1
  have hl : lv_has ls 5 [(0, .ref (ad 0)), (1, .int (nI n)), (2, .int x), (3, .ref (ad 16))] := hl
  refine lv_aload_n hx hb dL_copies_0 rfl (lv_at hl 3 rfl) ?_
  refine lv_iconst (v := 0) hx hb dL_copies_1 (by decide) ?_
  refine lv_aload_n hx hb dL_copies_2 rfl (lv_at hl 0 rfl) ?_
  refine lv_iload_n hx hb dL_copies_3 rfl (lv_at hl 1 rfl) ?_
  refine lv_iload_n hx hb dL_copies_4 rfl (lv_at hl 2 rfl) ?_
  refine x_callVc (rest := [.int 0, .ref (ad 16)]) B F G (c_X2_copies_bad2 l hst DL V h4 h5 n hn x h) (cwV 2 B.1.2.2.2.2 gL_copies_X2_copies rfl rfl rfl (by decide +kernel) ⟨Nat.le_of_ble_eq_true rfl, Nat.le_of_ble_eq_true rfl⟩) (d_recv B G DL.1) rfl hl.1 rfl (Nat.le_of_ble_eq_true rfl) ⟨Nat.le_of_ble_eq_true rfl, Nat.le_of_ble_eq_true rfl⟩ dL_copies_5 [] ⟨0, 10, 13, 13⟩ [] htab (fun z hz => nomatch hz) (by decide) (by decide) (by decide +kernel) (by decide +kernel) (fun q9 H locs G => ?_)
  refine lv_astore (lv' := [(4, .ref q9), (0, .ref (ad 0)), (1, .int (nI n)), (2, .int x), (3, .ref (ad 16))]) hx hb dL_copies_13 hl (by decide) rfl (fun ls hl => ?_)
  refine lv_iconst (v := 1) hx hb dL_copies_15 (by decide) ?_
  exact vx_ret (x_aendi hA B G (⟨rfl, rfl, rfl, rfl⟩) (by decide) (by decide) dL_copies_16)
set_option maxHeartbeats 1000000 in
set_option maxRecDepth 100000 in
theorem w_knows_bad2 (l : Launch) (hst : l.stackTraces = false) {D : va_G} {sh : xS} {ad : Nat → Nat} {cI cZ cO cJ : ClassId} {tys : List (ClassId × FieldType)} {mi e0 : Nat} {sa : Nat → Nat} {nb : Nat} {od : Nat → Nat} (DW : xDw sh ad cI cZ cO tys e0 nb od) (h16 : sh 16 = some (oMk cJ)) (hT3 : tys[3]? = some (cJ, .long)) (V : xV) (h4 : V 4 2 = nI nb) (h5 : V 5 2 = nI nb) (n : Nat) (hn : n < 8) (x : Int32) (h : ¬ (0 ≤ x ∧ x < nI nb)) : xMw l yL_knows wsL_knows D sh ad tys mi e0 sa V [.ref (ad 0), .int (nI n), .int x, .ref (ad 16)] (fun v sh' ad' V' => v = some (.int 1) ∧ sh' = sh ∧ ad' = ad ∧ V' = V) := by
  have DL := DW.dl
  refine xOfw (cc := cL_knows) (nL := 5) (ret := some .int) (hh := [(0, 17, 20, 13)]) (own := RL) (by decide) rfl rfl (Nat.le_of_ble_eq_true rfl) DL.2.2.2.2.2.2.1.2.2 ?_
  intro p e s m args below meth c A ls hA htab B E F hN G hl
  have hx := B.1.1
  have hb := B.1.2.1
  have hl : lv_has ls 5 [(0, .ref (ad 0)), (1, .int (nI n)), (2, .int x), (3, .ref (ad 16))] := hl
  refine lv_aload_n hx hb dL_knows_0 rfl (lv_at hl 3 rfl) ?_
  refine lv_iconst (v := 0) hx hb dL_knows_1 (by decide) ?_
  refine lv_aload_n hx hb dL_knows_2 rfl (lv_at hl 0 rfl) ?_
  refine lv_iload_n hx hb dL_knows_3 rfl (lv_at hl 1 rfl) ?_
  refine lv_iload_n hx hb dL_knows_4 rfl (lv_at hl 2 rfl) ?_
  refine x_callVc (rest := [.int 0, .ref (ad 16)]) B F G (c_X2_knows_bad2 l hst DL V h4 h5 n hn x h) (cwV 2 B.1.2.2.2.2 gL_knows_X2_knows rfl rfl rfl (by decide +kernel) ⟨Nat.le_of_ble_eq_true rfl, Nat.le_of_ble_eq_true rfl⟩) (d_recv B G DL.1) rfl hl.1 rfl (Nat.le_of_ble_eq_true rfl) ⟨Nat.le_of_ble_eq_true rfl, Nat.le_of_ble_eq_true rfl⟩ dL_knows_5 [] ⟨0, 17, 20, 13⟩ [] htab (fun z hz => nomatch hz) (by decide) (by decide) (by decide +kernel) (by decide +kernel) (fun q9 H locs G => ?_)
  refine lv_astore (lv' := [(4, .ref q9), (0, .ref (ad 0)), (1, .int (nI n)), (2, .int x), (3, .ref (ad 16))]) hx hb dL_knows_20 hl (by decide) rfl (fun ls hl => ?_)
  refine lv_iconst (v := 1) hx hb dL_knows_22 (by decide) ?_
  exact vx_ret (x_aendi hA B G (⟨rfl, rfl, rfl, rfl⟩) (by decide) (by decide) dL_knows_23)
set_option maxHeartbeats 1000000 in
set_option maxRecDepth 100000 in
theorem w_held_bad (l : Launch) (hst : l.stackTraces = false) {D : va_G} {sh : xS} {ad : Nat → Nat} {cI cZ cO cJ : ClassId} {tys : List (ClassId × FieldType)} {mi e0 : Nat} {sa : Nat → Nat} {nb : Nat} {od : Nat → Nat} (DW : xDw sh ad cI cZ cO tys e0 nb od) (h16 : sh 16 = some (oMk cJ)) (hT3 : tys[3]? = some (cJ, .long)) (V : xV) (h4 : V 4 2 = nI nb) (h5 : V 5 2 = nI nb) (x : Int32) (h : ¬ (0 ≤ x ∧ x ≤ 7)) : xMw l yL_held wsL_held D sh ad tys mi e0 sa V [.ref (ad 0), .int x, .ref (ad 16)] (fun v sh' ad' V' => v = some (.int 1) ∧ sh' = sh ∧ ad' = ad ∧ V' = V) := by
  have DL := DW.dl
  refine xOfw (cc := cL_held) (nL := 4) (ret := some .int) (hh := [(0, 9, 12, 13)]) (own := RL) (by decide) rfl rfl (Nat.le_of_ble_eq_true rfl) DL.2.2.2.2.2.2.1.2.2 ?_
  intro p e s m args below meth c A ls hA htab B E F hN G hl
  have hx := B.1.1
  have hb := B.1.2.1
  have hl : lv_has ls 4 [(0, .ref (ad 0)), (1, .int x), (2, .ref (ad 16))] := hl
  refine lv_aload_n hx hb dL_held_0 rfl (lv_at hl 2 rfl) ?_
  refine lv_iconst (v := 0) hx hb dL_held_1 (by decide) ?_
  refine lv_aload_n hx hb dL_held_2 rfl (lv_at hl 0 rfl) ?_
  refine lv_iload_n hx hb dL_held_3 rfl (lv_at hl 1 rfl) ?_
  refine x_callVc (rest := [.int 0, .ref (ad 16)]) B F G (c_X2_held_bad l hst DL V h4 h5 x h) (cwV 1 B.1.2.2.2.2 gL_held_X2_held rfl rfl rfl (by decide +kernel) ⟨Nat.le_of_ble_eq_true rfl, Nat.le_of_ble_eq_true rfl⟩) (d_recv B G DL.1) rfl hl.1 rfl (Nat.le_of_ble_eq_true rfl) ⟨Nat.le_of_ble_eq_true rfl, Nat.le_of_ble_eq_true rfl⟩ dL_held_4 [] ⟨0, 9, 12, 13⟩ [] htab (fun z hz => nomatch hz) (by decide) (by decide) (by decide +kernel) (by decide +kernel) (fun q9 H locs G => ?_)
  refine lv_astore_n (lv' := [(3, .ref q9), (0, .ref (ad 0)), (1, .int x), (2, .ref (ad 16))]) hx hb dL_held_12 rfl hl (by decide) rfl (fun ls hl => ?_)
  refine lv_iconst (v := 1) hx hb dL_held_13 (by decide) ?_
  exact vx_ret (x_aendi hA B G (⟨rfl, rfl, rfl, rfl⟩) (by decide) (by decide) dL_held_14)
set_option maxHeartbeats 1000000 in
set_option maxRecDepth 100000 in
theorem w_dropped_bad (l : Launch) (hst : l.stackTraces = false) {D : va_G} {sh : xS} {ad : Nat → Nat} {cI cZ cO cJ : ClassId} {tys : List (ClassId × FieldType)} {mi e0 : Nat} {sa : Nat → Nat} {nb : Nat} {od : Nat → Nat} (DW : xDw sh ad cI cZ cO tys e0 nb od) (h16 : sh 16 = some (oMk cJ)) (hT3 : tys[3]? = some (cJ, .long)) (V : xV) (h4 : V 4 2 = nI nb) (h5 : V 5 2 = nI nb) (x : Int32) (h : ¬ (0 ≤ x ∧ x ≤ 7)) : xMw l yL_dropped wsL_dropped D sh ad tys mi e0 sa V [.ref (ad 0), .int x, .ref (ad 16)] (fun v sh' ad' V' => v = some (.int 1) ∧ sh' = sh ∧ ad' = ad ∧ V' = V) := by
  have DL := DW.dl
  refine xOfw (cc := cL_dropped) (nL := 4) (ret := some .int) (hh := [(0, 9, 12, 13)]) (own := RL) (by decide) rfl rfl (Nat.le_of_ble_eq_true rfl) DL.2.2.2.2.2.2.1.2.2 ?_
  intro p e s m args below meth c A ls hA htab B E F hN G hl
  have hx := B.1.1
  have hb := B.1.2.1
  have hl : lv_has ls 4 [(0, .ref (ad 0)), (1, .int x), (2, .ref (ad 16))] := hl
  refine lv_aload_n hx hb dL_dropped_0 rfl (lv_at hl 2 rfl) ?_
  refine lv_iconst (v := 0) hx hb dL_dropped_1 (by decide) ?_
  refine lv_aload_n hx hb dL_dropped_2 rfl (lv_at hl 0 rfl) ?_
  refine lv_iload_n hx hb dL_dropped_3 rfl (lv_at hl 1 rfl) ?_
  refine x_callVc (rest := [.int 0, .ref (ad 16)]) B F G (c_X2_dropped_bad l hst DL V h4 h5 x h) (cwV 1 B.1.2.2.2.2 gL_dropped_X2_dropped rfl rfl rfl (by decide +kernel) ⟨Nat.le_of_ble_eq_true rfl, Nat.le_of_ble_eq_true rfl⟩) (d_recv B G DL.1) rfl hl.1 rfl (Nat.le_of_ble_eq_true rfl) ⟨Nat.le_of_ble_eq_true rfl, Nat.le_of_ble_eq_true rfl⟩ dL_dropped_4 [] ⟨0, 9, 12, 13⟩ [] htab (fun z hz => nomatch hz) (by decide) (by decide) (by decide +kernel) (by decide +kernel) (fun q9 H locs G => ?_)
  refine lv_astore_n (lv' := [(3, .ref q9), (0, .ref (ad 0)), (1, .int x), (2, .ref (ad 16))]) hx hb dL_dropped_12 rfl hl (by decide) rfl (fun ls hl => ?_)
  refine lv_iconst (v := 1) hx hb dL_dropped_13 (by decide) ?_
  exact vx_ret (x_aendi hA B G (⟨rfl, rfl, rfl, rfl⟩) (by decide) (by decide) dL_dropped_14)
set_option maxHeartbeats 1000000 in
set_option maxRecDepth 100000 in
theorem w_refused_bad (l : Launch) (hst : l.stackTraces = false) {D : va_G} {sh : xS} {ad : Nat → Nat} {cI cZ cO cJ : ClassId} {tys : List (ClassId × FieldType)} {mi e0 : Nat} {sa : Nat → Nat} {nb : Nat} {od : Nat → Nat} (DW : xDw sh ad cI cZ cO tys e0 nb od) (h16 : sh 16 = some (oMk cJ)) (hT3 : tys[3]? = some (cJ, .long)) (V : xV) (h4 : V 4 2 = nI nb) (h5 : V 5 2 = nI nb) (x : Int32) (h : ¬ (0 ≤ x ∧ x ≤ 7)) : xMw l yL_refused wsL_refused D sh ad tys mi e0 sa V [.ref (ad 0), .int x, .ref (ad 16)] (fun v sh' ad' V' => v = some (.int 1) ∧ sh' = sh ∧ ad' = ad ∧ V' = V) := by
  have DL := DW.dl
  refine xOfw (cc := cL_refused) (nL := 4) (ret := some .int) (hh := [(0, 9, 12, 13)]) (own := RL) (by decide) rfl rfl (Nat.le_of_ble_eq_true rfl) DL.2.2.2.2.2.2.1.2.2 ?_
  intro p e s m args below meth c A ls hA htab B E F hN G hl
  have hx := B.1.1
  have hb := B.1.2.1
  have hl : lv_has ls 4 [(0, .ref (ad 0)), (1, .int x), (2, .ref (ad 16))] := hl
  refine lv_aload_n hx hb dL_refused_0 rfl (lv_at hl 2 rfl) ?_
  refine lv_iconst (v := 0) hx hb dL_refused_1 (by decide) ?_
  refine lv_aload_n hx hb dL_refused_2 rfl (lv_at hl 0 rfl) ?_
  refine lv_iload_n hx hb dL_refused_3 rfl (lv_at hl 1 rfl) ?_
  refine x_callVc (rest := [.int 0, .ref (ad 16)]) B F G (c_X2_refused_bad l hst DL V h4 h5 x h) (cwV 1 B.1.2.2.2.2 gL_refused_X2_refused rfl rfl rfl (by decide +kernel) ⟨Nat.le_of_ble_eq_true rfl, Nat.le_of_ble_eq_true rfl⟩) (d_recv B G DL.1) rfl hl.1 rfl (Nat.le_of_ble_eq_true rfl) ⟨Nat.le_of_ble_eq_true rfl, Nat.le_of_ble_eq_true rfl⟩ dL_refused_4 [] ⟨0, 9, 12, 13⟩ [] htab (fun z hz => nomatch hz) (by decide) (by decide) (by decide +kernel) (by decide +kernel) (fun q9 H locs G => ?_)
  refine lv_astore_n (lv' := [(3, .ref q9), (0, .ref (ad 0)), (1, .int x), (2, .ref (ad 16))]) hx hb dL_refused_12 rfl hl (by decide) rfl (fun ls hl => ?_)
  refine lv_iconst (v := 1) hx hb dL_refused_13 (by decide) ?_
  exact vx_ret (x_aendi hA B G (⟨rfl, rfl, rfl, rfl⟩) (by decide) (by decide) dL_refused_14)
set_option maxHeartbeats 1000000 in
set_option maxRecDepth 100000 in
theorem w_held_ok (l : Launch) {D : va_G} {sh : xS} {ad : Nat → Nat} {cI cZ cO cJ : ClassId} {tys : List (ClassId × FieldType)} {mi e0 : Nat} {sa : Nat → Nat} {nb : Nat} {od : Nat → Nat} (DW : xDw sh ad cI cZ cO tys e0 nb od) (h16 : sh 16 = some (oMk cJ)) (hT3 : tys[3]? = some (cJ, .long)) (V : xV) (h4 : V 4 2 = nI nb) (h5 : V 5 2 = nI nb) (n : Nat) (hn : n < 8) : xMw l yL_held wsL_held D sh ad tys mi e0 sa V [.ref (ad 0), .int (nI n), .ref (ad 16)] (fun v sh' ad' V' => v = some (.int 0) ∧ sh' = sh ∧ ad' = ad ∧ V' = xu V 16 0 (nI (cntP (cHas V n) nb))) := by
  have DL := DW.dl
  refine xOfw (cc := cL_held) (nL := 4) (ret := some .int) (hh := [(0, 9, 12, 13)]) (own := RL) (by decide) rfl rfl (Nat.le_of_ble_eq_true rfl) DL.2.2.2.2.2.2.1.2.2 ?_
  intro p e s m args below meth c A ls hA htab B E F hN G hl
  have hx := B.1.1
  have hb := B.1.2.1
  have hl : lv_has ls 4 [(0, .ref (ad 0)), (1, .int (nI n)), (2, .ref (ad 16))] := hl
  refine lv_aload_n hx hb dL_held_0 rfl (lv_at hl 2 rfl) ?_
  refine lv_iconst (v := 0) hx hb dL_held_1 (by decide) ?_
  refine lv_aload_n hx hb dL_held_2 rfl (lv_at hl 0 rfl) ?_
  refine lv_iload_n hx hb dL_held_3 rfl (lv_at hl 1 rfl) ?_
  refine x_callVi (rest := [.int 0, .ref (ad 16)]) B G (c_X2_held_ok l DL V h4 h5 n hn) (cwV 1 B.1.2.2.2.2 gL_held_X2_held rfl rfl rfl (by decide +kernel) ⟨Nat.le_of_ble_eq_true rfl, Nat.le_of_ble_eq_true rfl⟩) (d_recv B G DL.1) rfl hl.1 rfl (Nat.le_of_ble_eq_true rfl) ⟨Nat.zero_le _, Nat.zero_le _⟩ dL_held_4 (fun H locs G => ?_)
  refine lv_i2l hx hb dL_held_7 rfl ?_
  refine x_lst (x := (nI (cntP (cHas V n) nb))) B G h16 hT3 (by first | rfl | decide) dL_held_8 (fun H locs G => ?_)
  refine lv_goto (tgt := 15) hx hb dL_held_9 (by decide) ?_
  refine lv_iconst (v := 0) hx hb dL_held_15 (by decide) ?_
  exact vx_ret (x_aendi hA B G (⟨rfl, rfl, rfl, rfl⟩) (by decide) (by decide) dL_held_16)
set_option maxHeartbeats 1000000 in
set_option maxRecDepth 100000 in
theorem w_dropped_ok (l : Launch) {D : va_G} {sh : xS} {ad : Nat → Nat} {cI cZ cO cJ : ClassId} {tys : List (ClassId × FieldType)} {mi e0 : Nat} {sa : Nat → Nat} {nb : Nat} {od : Nat → Nat} (DW : xDw sh ad cI cZ cO tys e0 nb od) (h16 : sh 16 = some (oMk cJ)) (hT3 : tys[3]? = some (cJ, .long)) (V : xV) (h4 : V 4 2 = nI nb) (h5 : V 5 2 = nI nb) (n : Nat) (hn : n < 8) : xMw l yL_dropped wsL_dropped D sh ad tys mi e0 sa V [.ref (ad 0), .int (nI n), .ref (ad 16)] (fun v sh' ad' V' => v = some (.int 0) ∧ sh' = sh ∧ ad' = ad ∧ V' = xu V 16 0 (V 2 n)) := by
  have DL := DW.dl
  refine xOfw (cc := cL_dropped) (nL := 4) (ret := some .int) (hh := [(0, 9, 12, 13)]) (own := RL) (by decide) rfl rfl (Nat.le_of_ble_eq_true rfl) DL.2.2.2.2.2.2.1.2.2 ?_
  intro p e s m args below meth c A ls hA htab B E F hN G hl
  have hx := B.1.1
  have hb := B.1.2.1
  have hl : lv_has ls 4 [(0, .ref (ad 0)), (1, .int (nI n)), (2, .ref (ad 16))] := hl
  refine lv_aload_n hx hb dL_dropped_0 rfl (lv_at hl 2 rfl) ?_
  refine lv_iconst (v := 0) hx hb dL_dropped_1 (by decide) ?_
  refine lv_aload_n hx hb dL_dropped_2 rfl (lv_at hl 0 rfl) ?_
  refine lv_iload_n hx hb dL_dropped_3 rfl (lv_at hl 1 rfl) ?_
  refine x_callVi (rest := [.int 0, .ref (ad 16)]) B G (c_X2_dropped_ok l DL V h4 h5 n hn) (cwV 1 B.1.2.2.2.2 gL_dropped_X2_dropped rfl rfl rfl (by decide +kernel) ⟨Nat.le_of_ble_eq_true rfl, Nat.le_of_ble_eq_true rfl⟩) (d_recv B G DL.1) rfl hl.1 rfl (Nat.le_of_ble_eq_true rfl) ⟨Nat.zero_le _, Nat.zero_le _⟩ dL_dropped_4 (fun H locs G => ?_)
  refine lv_i2l hx hb dL_dropped_7 rfl ?_
  refine x_lst (x := (V 2 n)) B G h16 hT3 (by first | rfl | decide) dL_dropped_8 (fun H locs G => ?_)
  refine lv_goto (tgt := 15) hx hb dL_dropped_9 (by decide) ?_
  refine lv_iconst (v := 0) hx hb dL_dropped_15 (by decide) ?_
  exact vx_ret (x_aendi hA B G (⟨rfl, rfl, rfl, rfl⟩) (by decide) (by decide) dL_dropped_16)
set_option maxHeartbeats 1000000 in
set_option maxRecDepth 100000 in
theorem w_refused_ok (l : Launch) {D : va_G} {sh : xS} {ad : Nat → Nat} {cI cZ cO cJ : ClassId} {tys : List (ClassId × FieldType)} {mi e0 : Nat} {sa : Nat → Nat} {nb : Nat} {od : Nat → Nat} (DW : xDw sh ad cI cZ cO tys e0 nb od) (h16 : sh 16 = some (oMk cJ)) (hT3 : tys[3]? = some (cJ, .long)) (V : xV) (h4 : V 4 2 = nI nb) (h5 : V 5 2 = nI nb) (n : Nat) (hn : n < 8) : xMw l yL_refused wsL_refused D sh ad tys mi e0 sa V [.ref (ad 0), .int (nI n), .ref (ad 16)] (fun v sh' ad' V' => v = some (.int 0) ∧ sh' = sh ∧ ad' = ad ∧ V' = xu V 16 0 (V 3 n)) := by
  have DL := DW.dl
  refine xOfw (cc := cL_refused) (nL := 4) (ret := some .int) (hh := [(0, 9, 12, 13)]) (own := RL) (by decide) rfl rfl (Nat.le_of_ble_eq_true rfl) DL.2.2.2.2.2.2.1.2.2 ?_
  intro p e s m args below meth c A ls hA htab B E F hN G hl
  have hx := B.1.1
  have hb := B.1.2.1
  have hl : lv_has ls 4 [(0, .ref (ad 0)), (1, .int (nI n)), (2, .ref (ad 16))] := hl
  refine lv_aload_n hx hb dL_refused_0 rfl (lv_at hl 2 rfl) ?_
  refine lv_iconst (v := 0) hx hb dL_refused_1 (by decide) ?_
  refine lv_aload_n hx hb dL_refused_2 rfl (lv_at hl 0 rfl) ?_
  refine lv_iload_n hx hb dL_refused_3 rfl (lv_at hl 1 rfl) ?_
  refine x_callVi (rest := [.int 0, .ref (ad 16)]) B G (c_X2_refused_ok l DL V h4 h5 n hn) (cwV 1 B.1.2.2.2.2 gL_refused_X2_refused rfl rfl rfl (by decide +kernel) ⟨Nat.le_of_ble_eq_true rfl, Nat.le_of_ble_eq_true rfl⟩) (d_recv B G DL.1) rfl hl.1 rfl (Nat.le_of_ble_eq_true rfl) ⟨Nat.zero_le _, Nat.zero_le _⟩ dL_refused_4 (fun H locs G => ?_)
  refine lv_i2l hx hb dL_refused_7 rfl ?_
  refine x_lst (x := (V 3 n)) B G h16 hT3 (by first | rfl | decide) dL_refused_8 (fun H locs G => ?_)
  refine lv_goto (tgt := 15) hx hb dL_refused_9 (by decide) ?_
  refine lv_iconst (v := 0) hx hb dL_refused_15 (by decide) ?_
  exact vx_ret (x_aendi hA B G (⟨rfl, rfl, rfl, rfl⟩) (by decide) (by decide) dL_refused_16)
set_option maxHeartbeats 1000000 in
set_option maxRecDepth 100000 in
theorem w_arrival_bad2 (l : Launch) (hst : l.stackTraces = false) {D : va_G} {sh : xS} {ad : Nat → Nat} {cI cZ cO cJ : ClassId} {tys : List (ClassId × FieldType)} {mi e0 : Nat} {sa : Nat → Nat} {nb : Nat} {od : Nat → Nat} (DW : xDw sh ad cI cZ cO tys e0 nb od) (h16 : sh 16 = some (oMk cJ)) (hT3 : tys[3]? = some (cJ, .long)) (V : xV) (h4 : V 4 2 = nI nb) (h5 : V 5 2 = nI nb) (n : Nat) (hn : n < 8) (x : Int32) (h : ¬ (0 ≤ x ∧ x ≤ 7)) : xMw l yL_arrival wsL_arrival D sh ad tys mi e0 sa V [.ref (ad 0), .int (nI n), .int x, .ref (ad 16)] (fun v sh' ad' V' => v = some (.int 1) ∧ sh' = sh ∧ ad' = ad ∧ V' = V) := by
  have DL := DW.dl
  refine xOfw (cc := cL_arrival) (nL := 5) (ret := some .int) (hh := [(0, 10, 13, 13)]) (own := RL) (by decide) rfl rfl (Nat.le_of_ble_eq_true rfl) DL.2.2.2.2.2.2.1.2.2 ?_
  intro p e s m args below meth c A ls hA htab B E F hN G hl
  have hx := B.1.1
  have hb := B.1.2.1
  have hl : lv_has ls 5 [(0, .ref (ad 0)), (1, .int (nI n)), (2, .int x), (3, .ref (ad 16))] := hl
  refine lv_aload_n hx hb dL_arrival_0 rfl (lv_at hl 3 rfl) ?_
  refine lv_iconst (v := 0) hx hb dL_arrival_1 (by decide) ?_
  refine lv_aload_n hx hb dL_arrival_2 rfl (lv_at hl 0 rfl) ?_
  refine lv_iload_n hx hb dL_arrival_3 rfl (lv_at hl 1 rfl) ?_
  refine lv_iload_n hx hb dL_arrival_4 rfl (lv_at hl 2 rfl) ?_
  refine x_callVc (rest := [.int 0, .ref (ad 16)]) B F G (c_X2_arrival_bad2 l hst DL V h4 h5 n hn x h) (cwV 2 B.1.2.2.2.2 gL_arrival_X2_arrival rfl rfl rfl (by decide +kernel) ⟨Nat.le_of_ble_eq_true rfl, Nat.le_of_ble_eq_true rfl⟩) (d_recv B G DL.1) rfl hl.1 rfl (Nat.le_of_ble_eq_true rfl) ⟨Nat.le_of_ble_eq_true rfl, Nat.le_of_ble_eq_true rfl⟩ dL_arrival_5 [] ⟨0, 10, 13, 13⟩ [] htab (fun z hz => nomatch hz) (by decide) (by decide) (by decide +kernel) (by decide +kernel) (fun q9 H locs G => ?_)
  refine lv_astore (lv' := [(4, .ref q9), (0, .ref (ad 0)), (1, .int (nI n)), (2, .int x), (3, .ref (ad 16))]) hx hb dL_arrival_13 hl (by decide) rfl (fun ls hl => ?_)
  refine lv_iconst (v := 1) hx hb dL_arrival_15 (by decide) ?_
  exact vx_ret (x_aendi hA B G (⟨rfl, rfl, rfl, rfl⟩) (by decide) (by decide) dL_arrival_16)
set_option maxHeartbeats 1000000 in
set_option maxRecDepth 100000 in
theorem w_arrivalByRounds_bad2 (l : Launch) (hst : l.stackTraces = false) {D : va_G} {sh : xS} {ad : Nat → Nat} {cI cZ cO cJ : ClassId} {tys : List (ClassId × FieldType)} {mi e0 : Nat} {sa : Nat → Nat} {nb : Nat} {od : Nat → Nat} (DW : xDw sh ad cI cZ cO tys e0 nb od) (h16 : sh 16 = some (oMk cJ)) (hT3 : tys[3]? = some (cJ, .long)) (V : xV) (h4 : V 4 2 = nI nb) (h5 : V 5 2 = nI nb) (n : Nat) (hn : n < 8) (x : Int32) (h : ¬ (0 ≤ x ∧ x ≤ 7)) : xMw l yL_arrivalByRounds wsL_arrivalByRounds D sh ad tys mi e0 sa V [.ref (ad 0), .int (nI n), .int x, .ref (ad 16)] (fun v sh' ad' V' => v = some (.int 1) ∧ sh' = sh ∧ ad' = ad ∧ V' = V) := by
  have DL := DW.dl
  refine xOfw (cc := cL_arrivalByRounds) (nL := 5) (ret := some .int) (hh := [(0, 10, 13, 13)]) (own := RL) (by decide) rfl rfl (Nat.le_of_ble_eq_true rfl) DL.2.2.2.2.2.2.1.2.2 ?_
  intro p e s m args below meth c A ls hA htab B E F hN G hl
  have hx := B.1.1
  have hb := B.1.2.1
  have hl : lv_has ls 5 [(0, .ref (ad 0)), (1, .int (nI n)), (2, .int x), (3, .ref (ad 16))] := hl
  refine lv_aload_n hx hb dL_arrivalByRounds_0 rfl (lv_at hl 3 rfl) ?_
  refine lv_iconst (v := 0) hx hb dL_arrivalByRounds_1 (by decide) ?_
  refine lv_aload_n hx hb dL_arrivalByRounds_2 rfl (lv_at hl 0 rfl) ?_
  refine lv_iload_n hx hb dL_arrivalByRounds_3 rfl (lv_at hl 1 rfl) ?_
  refine lv_iload_n hx hb dL_arrivalByRounds_4 rfl (lv_at hl 2 rfl) ?_
  refine x_callVc (rest := [.int 0, .ref (ad 16)]) B F G (c_X2_arrivalByRounds_bad2 l hst DL V h4 h5 n hn x h) (cwV 2 B.1.2.2.2.2 gL_arrivalByRounds_X2_arrivalByRounds rfl rfl rfl (by decide +kernel) ⟨Nat.le_of_ble_eq_true rfl, Nat.le_of_ble_eq_true rfl⟩) (d_recv B G DL.1) rfl hl.1 rfl (Nat.le_of_ble_eq_true rfl) ⟨Nat.le_of_ble_eq_true rfl, Nat.le_of_ble_eq_true rfl⟩ dL_arrivalByRounds_5 [] ⟨0, 10, 13, 13⟩ [] htab (fun z hz => nomatch hz) (by decide) (by decide) (by decide +kernel) (by decide +kernel) (fun q9 H locs G => ?_)
  refine lv_astore (lv' := [(4, .ref q9), (0, .ref (ad 0)), (1, .int (nI n)), (2, .int x), (3, .ref (ad 16))]) hx hb dL_arrivalByRounds_13 hl (by decide) rfl (fun ls hl => ?_)
  refine lv_iconst (v := 1) hx hb dL_arrivalByRounds_15 (by decide) ?_
  exact vx_ret (x_aendi hA B G (⟨rfl, rfl, rfl, rfl⟩) (by decide) (by decide) dL_arrivalByRounds_16)
set_option maxHeartbeats 1000000 in
set_option maxRecDepth 100000 in
theorem w_arrival_ok (l : Launch) {D : va_G} {sh : xS} {ad : Nat → Nat} {cI cZ cO cJ : ClassId} {tys : List (ClassId × FieldType)} {mi e0 : Nat} {sa : Nat → Nat} {nb : Nat} {od : Nat → Nat} (DW : xDw sh ad cI cZ cO tys e0 nb od) (h16 : sh 16 = some (oMk cJ)) (hT3 : tys[3]? = some (cJ, .long)) (V : xV) (h4 : V 4 2 = nI nb) (h5 : V 5 2 = nI nb) (n d nc : Nat) (hn : n < 8) (hd : d < 8) (hnc : V 6 6 = nI nc) (hc30 : nc ≤ 30) (hpl : cPl V nc) : xMw l yL_arrival wsL_arrival D sh ad tys mi e0 sa V [.ref (ad 0), .int (nI n), .int (nI d), .ref (ad 16)] (fun v sh' ad' V' => v = some (.int 0) ∧ sh' = sh ∧ ad' = ad ∧ V' = xu (pFin V n d nc (V 0 0)) 16 0 (if pFin V n d nc (V 0 0) 13 d = NEV then -1 else pFin V n d nc (V 0 0) 13 d)) := by
  have DL := DW.dl
  refine xOfw (cc := cL_arrival) (nL := 5) (ret := some .int) (hh := [(0, 10, 13, 13)]) (own := RL) (by decide) rfl rfl (Nat.le_of_ble_eq_true rfl) DL.2.2.2.2.2.2.1.2.2 ?_
  intro p e s m args below meth c A ls hA htab B E F hN G hl
  have hx := B.1.1
  have hb := B.1.2.1
  have hl : lv_has ls 5 [(0, .ref (ad 0)), (1, .int (nI n)), (2, .int (nI d)), (3, .ref (ad 16))] := hl
  refine lv_aload_n hx hb dL_arrival_0 rfl (lv_at hl 3 rfl) ?_
  refine lv_iconst (v := 0) hx hb dL_arrival_1 (by decide) ?_
  refine lv_aload_n hx hb dL_arrival_2 rfl (lv_at hl 0 rfl) ?_
  refine lv_iload_n hx hb dL_arrival_3 rfl (lv_at hl 1 rfl) ?_
  refine lv_iload_n hx hb dL_arrival_4 rfl (lv_at hl 2 rfl) ?_
  refine x_callVi (rest := [.int 0, .ref (ad 16)]) B G (c_X2_arrival_ok l DL V h4 h5 n d nc hn hd hnc hc30 hpl) (cwV 2 B.1.2.2.2.2 gL_arrival_X2_arrival rfl rfl rfl (by decide +kernel) ⟨Nat.le_of_ble_eq_true rfl, Nat.le_of_ble_eq_true rfl⟩) (d_recv B G DL.1) rfl hl.1 rfl (Nat.le_of_ble_eq_true rfl) ⟨Nat.zero_le _, Nat.zero_le _⟩ dL_arrival_5 (fun H locs G => ?_)
  refine lv_i2l hx hb dL_arrival_8 rfl ?_
  refine x_lst (x := (if pFin V n d nc (V 0 0) 13 d = NEV then -1 else pFin V n d nc (V 0 0) 13 d)) B G h16 hT3 (by first | rfl | decide) dL_arrival_9 (fun H locs G => ?_)
  refine lv_goto (tgt := 17) hx hb dL_arrival_10 (by decide) ?_
  refine lv_iconst (v := 0) hx hb dL_arrival_17 (by decide) ?_
  exact vx_ret (x_aendi hA B G (⟨rfl, rfl, rfl, rfl⟩) (by decide) (by decide) dL_arrival_18)
set_option maxHeartbeats 1000000 in
set_option maxRecDepth 100000 in
theorem w_arrivalByRounds_ok (l : Launch) {D : va_G} {sh : xS} {ad : Nat → Nat} {cI cZ cO cJ : ClassId} {tys : List (ClassId × FieldType)} {mi e0 : Nat} {sa : Nat → Nat} {nb : Nat} {od : Nat → Nat} (DW : xDw sh ad cI cZ cO tys e0 nb od) (h16 : sh 16 = some (oMk cJ)) (hT3 : tys[3]? = some (cJ, .long)) (V : xV) (h4 : V 4 2 = nI nb) (h5 : V 5 2 = nI nb) (n d nc : Nat) (hn : n < 8) (hd : d < 8) (hnc : V 6 6 = nI nc) (hc30 : nc ≤ 30) (hpl : cPl V nc) : xMw l yL_arrivalByRounds wsL_arrivalByRounds D sh ad tys mi e0 sa V [.ref (ad 0), .int (nI n), .int (nI d), .ref (ad 16)] (fun v sh' ad' V' => v = some (.int 0) ∧ sh' = sh ∧ ad' = ad ∧ V' = xu (pAll V n nc (V 0 0)) 16 0 (if pAll V n nc (V 0 0) 13 d = NEV then -1 else pAll V n nc (V 0 0) 13 d)) := by
  have DL := DW.dl
  refine xOfw (cc := cL_arrivalByRounds) (nL := 5) (ret := some .int) (hh := [(0, 10, 13, 13)]) (own := RL) (by decide) rfl rfl (Nat.le_of_ble_eq_true rfl) DL.2.2.2.2.2.2.1.2.2 ?_
  intro p e s m args below meth c A ls hA htab B E F hN G hl
  have hx := B.1.1
  have hb := B.1.2.1
  have hl : lv_has ls 5 [(0, .ref (ad 0)), (1, .int (nI n)), (2, .int (nI d)), (3, .ref (ad 16))] := hl
  refine lv_aload_n hx hb dL_arrivalByRounds_0 rfl (lv_at hl 3 rfl) ?_
  refine lv_iconst (v := 0) hx hb dL_arrivalByRounds_1 (by decide) ?_
  refine lv_aload_n hx hb dL_arrivalByRounds_2 rfl (lv_at hl 0 rfl) ?_
  refine lv_iload_n hx hb dL_arrivalByRounds_3 rfl (lv_at hl 1 rfl) ?_
  refine lv_iload_n hx hb dL_arrivalByRounds_4 rfl (lv_at hl 2 rfl) ?_
  refine x_callVi (rest := [.int 0, .ref (ad 16)]) B G (c_X2_arrivalByRounds_ok l DL V h4 h5 n d nc hn hd hnc hc30 hpl) (cwV 2 B.1.2.2.2.2 gL_arrivalByRounds_X2_arrivalByRounds rfl rfl rfl (by decide +kernel) ⟨Nat.le_of_ble_eq_true rfl, Nat.le_of_ble_eq_true rfl⟩) (d_recv B G DL.1) rfl hl.1 rfl (Nat.le_of_ble_eq_true rfl) ⟨Nat.zero_le _, Nat.zero_le _⟩ dL_arrivalByRounds_5 (fun H locs G => ?_)
  refine lv_i2l hx hb dL_arrivalByRounds_8 rfl ?_
  refine x_lst (x := (if pAll V n nc (V 0 0) 13 d = NEV then -1 else pAll V n nc (V 0 0) 13 d)) B G h16 hT3 (by first | rfl | decide) dL_arrivalByRounds_9 (fun H locs G => ?_)
  refine lv_goto (tgt := 17) hx hb dL_arrivalByRounds_10 (by decide) ?_
  refine lv_iconst (v := 0) hx hb dL_arrivalByRounds_17 (by decide) ?_
  exact vx_ret (x_aendi hA B G (⟨rfl, rfl, rfl, rfl⟩) (by decide) (by decide) dL_arrivalByRounds_18)
set_option maxHeartbeats 1000000 in
set_option maxRecDepth 100000 in
theorem w_promised_ok (l : Launch) {D : va_G} {sh : xS} {ad : Nat → Nat} {cI cZ cO cJ : ClassId} {tys : List (ClassId × FieldType)} {mi e0 : Nat} {sa : Nat → Nat} {nb : Nat} {od : Nat → Nat} (DW : xDw sh ad cI cZ cO tys e0 nb od) (h16 : sh 16 = some (oMk cJ)) (hT3 : tys[3]? = some (cJ, .long)) (V : xV) (h4 : V 4 2 = nI nb) (h5 : V 5 2 = nI nb) (k : Nat) (hk : k < nb) (nc : Nat) (hd1 : V (20 + 4 * k) 1 = nI (V (20 + 4 * k) 1).toNatClampNeg) (hd8 : (V (20 + 4 * k) 1).toNatClampNeg < 8) (hnc : V 6 6 = nI nc) (hc30 : nc ≤ 30) (hpl : cPl V nc) : xMw l yL_promised wsL_promised D sh ad tys mi e0 sa V [.ref (ad 0), .int (nI k), .ref (ad 16)] (fun v sh' ad' V' => v = some (.int 0) ∧ sh' = sh ∧ ad' = ad ∧ V' = xu ((cPr V (20 + 4 * k) (V (20 + 4 * k) 1).toNatClampNeg nc 8).2) 16 0 (if (cPr V (20 + 4 * k) (V (20 + 4 * k) 1).toNatClampNeg nc 8).1 < V (20 + 4 * k) 3 then (if (cPr V (20 + 4 * k) (V (20 + 4 * k) 1).toNatClampNeg nc 8).1 = NEV then -1 else (cPr V (20 + 4 * k) (V (20 + 4 * k) 1).toNatClampNeg nc 8).1) else -1)) := by
  have DL := DW.dl
  refine xOfw (cc := cL_promised) (nL := 4) (ret := some .int) (hh := [(0, 9, 12, 13)]) (own := RL) (by decide) rfl rfl (Nat.le_of_ble_eq_true rfl) DL.2.2.2.2.2.2.1.2.2 ?_
  intro p e s m args below meth c A ls hA htab B E F hN G hl
  have hx := B.1.1
  have hb := B.1.2.1
  have hl : lv_has ls 4 [(0, .ref (ad 0)), (1, .int (nI k)), (2, .ref (ad 16))] := hl
  refine lv_aload_n hx hb dL_promised_0 rfl (lv_at hl 2 rfl) ?_
  refine lv_iconst (v := 0) hx hb dL_promised_1 (by decide) ?_
  refine lv_aload_n hx hb dL_promised_2 rfl (lv_at hl 0 rfl) ?_
  refine lv_iload_n hx hb dL_promised_3 rfl (lv_at hl 1 rfl) ?_
  refine x_callVi (rest := [.int 0, .ref (ad 16)]) B G (c_X2_promised_ok l DL V h4 h5 k hk nc hd1 hd8 hnc hc30 hpl) (cwV 1 B.1.2.2.2.2 gL_promised_X2_promised rfl rfl rfl (by decide +kernel) ⟨Nat.le_of_ble_eq_true rfl, Nat.le_of_ble_eq_true rfl⟩) (d_recv B G DL.1) rfl hl.1 rfl (Nat.le_of_ble_eq_true rfl) ⟨Nat.zero_le _, Nat.zero_le _⟩ dL_promised_4 (fun H locs G => ?_)
  refine lv_i2l hx hb dL_promised_7 rfl ?_
  refine x_lst (x := (if (cPr V (20 + 4 * k) (V (20 + 4 * k) 1).toNatClampNeg nc 8).1 < V (20 + 4 * k) 3 then (if (cPr V (20 + 4 * k) (V (20 + 4 * k) 1).toNatClampNeg nc 8).1 = NEV then -1 else (cPr V (20 + 4 * k) (V (20 + 4 * k) 1).toNatClampNeg nc 8).1) else -1)) B G h16 hT3 (by first | rfl | decide) dL_promised_8 (fun H locs G => ?_)
  refine lv_goto (tgt := 15) hx hb dL_promised_9 (by decide) ?_
  refine lv_iconst (v := 0) hx hb dL_promised_15 (by decide) ?_
  exact vx_ret (x_aendi hA B G (⟨rfl, rfl, rfl, rfl⟩) (by decide) (by decide) dL_promised_16)
set_option maxHeartbeats 1000000 in
set_option maxRecDepth 100000 in
theorem w_heldAt_ok (l : Launch) {D : va_G} {sh : xS} {ad : Nat → Nat} {cI cZ cO cJ : ClassId} {tys : List (ClassId × FieldType)} {mi e0 : Nat} {sa : Nat → Nat} {nb : Nat} {od : Nat → Nat} (DW : xDw sh ad cI cZ cO tys e0 nb od) (h16 : sh 16 = some (oMk cJ)) (hT3 : tys[3]? = some (cJ, .long)) (V : xV) (h4 : V 4 2 = nI nb) (h5 : V 5 2 = nI nb) (n j : Nat) (x : Int32) (hn : n < 8) (hj : j < nb) (hjP : 0 < V (20 + 4 * od j + 1) n) (hjx : nI (cntP (cHasO V od n) j) = x) : xMw l yL_heldAt wsL_heldAt D sh ad tys mi e0 sa V [.ref (ad 0), .int (nI n), .int x, .ref (ad 16)] (fun v sh' ad' V' => v = some (.int 0) ∧ sh' = sh ∧ ad' = ad ∧ V' = xu V 16 0 (V (20 + 4 * od j) 0)) := by
  have DL := DW.dl
  refine xOfw (cc := cL_heldAt) (nL := 5) (ret := some .int) (hh := [(0, 10, 13, 13)]) (own := RL) (by decide) rfl rfl (Nat.le_of_ble_eq_true rfl) DL.2.2.2.2.2.2.1.2.2 ?_
  intro p e s m args below meth c A ls hA htab B E F hN G hl
  have hx := B.1.1
  have hb := B.1.2.1
  have hl : lv_has ls 5 [(0, .ref (ad 0)), (1, .int (nI n)), (2, .int x), (3, .ref (ad 16))] := hl
  refine lv_aload_n hx hb dL_heldAt_0 rfl (lv_at hl 3 rfl) ?_
  refine lv_iconst (v := 0) hx hb dL_heldAt_1 (by decide) ?_
  refine lv_aload_n hx hb dL_heldAt_2 rfl (lv_at hl 0 rfl) ?_
  refine lv_iload_n hx hb dL_heldAt_3 rfl (lv_at hl 1 rfl) ?_
  refine lv_iload_n hx hb dL_heldAt_4 rfl (lv_at hl 2 rfl) ?_
  refine x_callVi (rest := [.int 0, .ref (ad 16)]) B G (c_X2_heldAt_ok l DL V h4 h5 n j x hn hj hjP hjx) (cwV 2 B.1.2.2.2.2 gL_heldAt_X2_heldAt rfl rfl rfl (by decide +kernel) ⟨Nat.le_of_ble_eq_true rfl, Nat.le_of_ble_eq_true rfl⟩) (d_recv B G DL.1) rfl hl.1 rfl (Nat.le_of_ble_eq_true rfl) ⟨Nat.zero_le _, Nat.zero_le _⟩ dL_heldAt_5 (fun H locs G => ?_)
  refine lv_i2l hx hb dL_heldAt_8 rfl ?_
  refine x_lst (x := (V (20 + 4 * od j) 0)) B G h16 hT3 (by first | rfl | decide) dL_heldAt_9 (fun H locs G => ?_)
  refine lv_goto (tgt := 17) hx hb dL_heldAt_10 (by decide) ?_
  refine lv_iconst (v := 0) hx hb dL_heldAt_17 (by decide) ?_
  exact vx_ret (x_aendi hA B G (⟨rfl, rfl, rfl, rfl⟩) (by decide) (by decide) dL_heldAt_18)
set_option maxHeartbeats 1000000 in
set_option maxRecDepth 100000 in
theorem w_heldAt_bad2 (l : Launch) (hst : l.stackTraces = false) {D : va_G} {sh : xS} {ad : Nat → Nat} {cI cZ cO cJ : ClassId} {tys : List (ClassId × FieldType)} {mi e0 : Nat} {sa : Nat → Nat} {nb : Nat} {od : Nat → Nat} (DW : xDw sh ad cI cZ cO tys e0 nb od) (h16 : sh 16 = some (oMk cJ)) (hT3 : tys[3]? = some (cJ, .long)) (V : xV) (h4 : V 4 2 = nI nb) (h5 : V 5 2 = nI nb) (n : Nat) (x : Int32) (hn : n < 8) (hno : ∀ i, i < nb → 0 < V (20 + 4 * od i + 1) n → ¬ nI (cntP (cHasO V od n) i) = x) : xMw l yL_heldAt wsL_heldAt D sh ad tys mi e0 sa V [.ref (ad 0), .int (nI n), .int x, .ref (ad 16)] (fun v sh' ad' V' => v = some (.int 1) ∧ sh' = sh ∧ ad' = ad ∧ V' = V) := by
  have DL := DW.dl
  refine xOfw (cc := cL_heldAt) (nL := 5) (ret := some .int) (hh := [(0, 10, 13, 13)]) (own := RL) (by decide) rfl rfl (Nat.le_of_ble_eq_true rfl) DL.2.2.2.2.2.2.1.2.2 ?_
  intro p e s m args below meth c A ls hA htab B E F hN G hl
  have hx := B.1.1
  have hb := B.1.2.1
  have hl : lv_has ls 5 [(0, .ref (ad 0)), (1, .int (nI n)), (2, .int x), (3, .ref (ad 16))] := hl
  refine lv_aload_n hx hb dL_heldAt_0 rfl (lv_at hl 3 rfl) ?_
  refine lv_iconst (v := 0) hx hb dL_heldAt_1 (by decide) ?_
  refine lv_aload_n hx hb dL_heldAt_2 rfl (lv_at hl 0 rfl) ?_
  refine lv_iload_n hx hb dL_heldAt_3 rfl (lv_at hl 1 rfl) ?_
  refine lv_iload_n hx hb dL_heldAt_4 rfl (lv_at hl 2 rfl) ?_
  refine x_callVc (rest := [.int 0, .ref (ad 16)]) B F G (c_X2_heldAt_bad2 l hst DL V h4 h5 n x hn hno) (cwV 2 B.1.2.2.2.2 gL_heldAt_X2_heldAt rfl rfl rfl (by decide +kernel) ⟨Nat.le_of_ble_eq_true rfl, Nat.le_of_ble_eq_true rfl⟩) (d_recv B G DL.1) rfl hl.1 rfl (Nat.le_of_ble_eq_true rfl) ⟨Nat.le_of_ble_eq_true rfl, Nat.le_of_ble_eq_true rfl⟩ dL_heldAt_5 [] ⟨0, 10, 13, 13⟩ [] htab (fun z hz => nomatch hz) (by decide) (by decide) (by decide +kernel) (by decide +kernel) (fun q9 H locs G => ?_)
  refine lv_astore (lv' := [(4, .ref q9), (0, .ref (ad 0)), (1, .int (nI n)), (2, .int x), (3, .ref (ad 16))]) hx hb dL_heldAt_13 hl (by decide) rfl (fun ls hl => ?_)
  refine lv_iconst (v := 1) hx hb dL_heldAt_15 (by decide) ?_
  exact vx_ret (x_aendi hA B G (⟨rfl, rfl, rfl, rfl⟩) (by decide) (by decide) dL_heldAt_16)
set_option maxHeartbeats 1000000 in
set_option maxRecDepth 100000 in
theorem w_pass_ok (l : Launch) {D : va_G} {sh : xS} {ad : Nat → Nat} {cI cZ cO cJ : ClassId} {tys : List (ClassId × FieldType)} {mi e0 : Nat} {sa : Nat → Nat} {nb : Nat} {od : Nat → Nat} (DW : xDw sh ad cI cZ cO tys e0 nb od) (h16 : sh 16 = some (oMk cJ)) (hT3 : tys[3]? = some (cJ, .long)) (V : xV) (h4 : V 4 2 = nI nb) (h5 : V 5 2 = nI nb) (x : Int32) (h : 1 ≤ x ∧ x ≤ 10000) : xMw l yL_pass wsL_pass D sh ad tys mi e0 sa V [.ref (ad 0), .int x, .ref (ad 16)] (fun v sh' ad' V' => v = some (.int 0) ∧ sh' = sh ∧ ad' = ad ∧ V' = xu (cPass (xu V 0 0 (V 0 0 + x)) (V 0 0) (V 0 0 + x) nb) 16 0 (nI (cntP (cGone (xu V 0 0 (V 0 0 + x)) (V 0 0) (V 0 0 + x)) nb))) := by
  have DL := DW.dl
  refine xOfw (cc := cL_pass) (nL := 4) (ret := some .int) (hh := [(0, 9, 12, 15)]) (own := RL) (by decide) rfl rfl (Nat.le_of_ble_eq_true rfl) DL.2.2.2.2.2.2.1.2.2 ?_
  intro p e s m args below meth c A ls hA htab B E F hN G hl
  have hx := B.1.1
  have hb := B.1.2.1
  have hl : lv_has ls 4 [(0, .ref (ad 0)), (1, .int x), (2, .ref (ad 16))] := hl
  refine lv_aload_n hx hb dL_pass_0 rfl (lv_at hl 2 rfl) ?_
  refine lv_iconst (v := 0) hx hb dL_pass_1 (by decide) ?_
  refine lv_aload_n hx hb dL_pass_2 rfl (lv_at hl 0 rfl) ?_
  refine lv_iload_n hx hb dL_pass_3 rfl (lv_at hl 1 rfl) ?_
  refine x_callVi (rest := [.int 0, .ref (ad 16)]) B G (c_X2_pass_ok l DL V h4 h5 x h) (cwV 1 B.1.2.2.2.2 gL_pass_X2_pass rfl rfl rfl (by decide +kernel) ⟨Nat.le_of_ble_eq_true rfl, Nat.le_of_ble_eq_true rfl⟩) (d_recv B G DL.1) rfl hl.1 rfl (Nat.le_of_ble_eq_true rfl) ⟨Nat.zero_le _, Nat.zero_le _⟩ dL_pass_4 (fun H locs G => ?_)
  refine lv_i2l hx hb dL_pass_7 rfl ?_
  refine x_lst (x := (nI (cntP (cGone (xu V 0 0 (V 0 0 + x)) (V 0 0) (V 0 0 + x)) nb))) B G h16 hT3 (by first | rfl | decide) dL_pass_8 (fun H locs G => ?_)
  refine lv_goto (tgt := 15) hx hb dL_pass_9 (by decide) ?_
  refine lv_iconst (v := 0) hx hb dL_pass_15 (by decide) ?_
  exact vx_ret (x_aendi hA B G (⟨rfl, rfl, rfl, rfl⟩) (by decide) (by decide) dL_pass_16)
set_option maxHeartbeats 1000000 in
set_option maxRecDepth 100000 in
theorem w_pass_bad (l : Launch) (hst : l.stackTraces = false) {D : va_G} {sh : xS} {ad : Nat → Nat} {cI cZ cO cJ : ClassId} {tys : List (ClassId × FieldType)} {mi e0 : Nat} {sa : Nat → Nat} {nb : Nat} {od : Nat → Nat} (DW : xDw sh ad cI cZ cO tys e0 nb od) (h16 : sh 16 = some (oMk cJ)) (hT3 : tys[3]? = some (cJ, .long)) (V : xV) (h4 : V 4 2 = nI nb) (h5 : V 5 2 = nI nb) (x : Int32) (h : ¬ (1 ≤ x ∧ x ≤ 10000)) : xMw l yL_pass wsL_pass D sh ad tys mi e0 sa V [.ref (ad 0), .int x, .ref (ad 16)] (fun v sh' ad' V' => v = some (.int 1) ∧ sh' = sh ∧ ad' = ad ∧ V' = V) := by
  have DL := DW.dl
  refine xOfw (cc := cL_pass) (nL := 4) (ret := some .int) (hh := [(0, 9, 12, 15)]) (own := RL) (by decide) rfl rfl (Nat.le_of_ble_eq_true rfl) DL.2.2.2.2.2.2.1.2.2 ?_
  intro p e s m args below meth c A ls hA htab B E F hN G hl
  have hx := B.1.1
  have hb := B.1.2.1
  have hl : lv_has ls 4 [(0, .ref (ad 0)), (1, .int x), (2, .ref (ad 16))] := hl
  refine lv_aload_n hx hb dL_pass_0 rfl (lv_at hl 2 rfl) ?_
  refine lv_iconst (v := 0) hx hb dL_pass_1 (by decide) ?_
  refine lv_aload_n hx hb dL_pass_2 rfl (lv_at hl 0 rfl) ?_
  refine lv_iload_n hx hb dL_pass_3 rfl (lv_at hl 1 rfl) ?_
  refine x_callVc (rest := [.int 0, .ref (ad 16)]) B F G (c_X2_pass_bad l hst DL V h4 h5 x h) (cwV 1 B.1.2.2.2.2 gL_pass_X2_pass rfl rfl rfl (by decide +kernel) ⟨Nat.le_of_ble_eq_true rfl, Nat.le_of_ble_eq_true rfl⟩) (d_recv B G DL.1) rfl hl.1 rfl (Nat.le_of_ble_eq_true rfl) ⟨Nat.le_of_ble_eq_true rfl, Nat.le_of_ble_eq_true rfl⟩ dL_pass_4 [] ⟨0, 9, 12, 15⟩ [] htab (fun z hz => nomatch hz) (by decide) (by decide) (by decide +kernel) (by decide +kernel) (fun q9 H locs G => ?_)
  refine lv_astore_n (lv' := [(3, .ref q9), (0, .ref (ad 0)), (1, .int x), (2, .ref (ad 16))]) hx hb dL_pass_12 rfl hl (by decide) rfl (fun ls hl => ?_)
  refine lv_iconst (v := 1) hx hb dL_pass_13 (by decide) ?_
  exact vx_ret (x_aendi hA B G (⟨rfl, rfl, rfl, rfl⟩) (by decide) (by decide) dL_pass_14)
set_option maxHeartbeats 1000000 in
set_option maxRecDepth 100000 in
theorem w_setBuffer_ok (l : Launch) {D : va_G} {sh : xS} {ad : Nat → Nat} {cI cZ cO cJ : ClassId} {tys : List (ClassId × FieldType)} {mi e0 : Nat} {sa : Nat → Nat} {nb : Nat} {od : Nat → Nat} (DW : xDw sh ad cI cZ cO tys e0 nb od) (h16 : sh 16 = some (oMk cJ)) (hT3 : tys[3]? = some (cJ, .long)) (V : xV) (h4 : V 4 2 = nI nb) (h5 : V 5 2 = nI nb) (n : Nat) (y : Int32) (hn : n < 8) (h1 : 1 ≤ y ∧ y ≤ 8) (h : nI (cntP (cHas V n) nb) ≤ y) : xMw l yL_setBuffer wsL_setBuffer D sh ad tys mi e0 sa V [.ref (ad 0), .int (nI n), .int y, .ref (ad 16)] (fun v sh' ad' V' => v = some (.int 0) ∧ sh' = sh ∧ ad' = ad ∧ V' = xu (xu V 1 n y) 16 0 (V 1 n)) := by
  have DL := DW.dl
  refine xOfw (cc := cL_setBuffer) (nL := 5) (ret := some .int) (hh := [(0, 10, 13, 13), (0, 10, 17, 15), (0, 10, 21, 17)]) (own := RL) (by decide) rfl rfl (Nat.le_of_ble_eq_true rfl) DL.2.2.2.2.2.2.1.2.2 ?_
  intro p e s m args below meth c A ls hA htab B E F hN G hl
  have hx := B.1.1
  have hb := B.1.2.1
  have hl : lv_has ls 5 [(0, .ref (ad 0)), (1, .int (nI n)), (2, .int y), (3, .ref (ad 16))] := hl
  refine lv_aload_n hx hb dL_setBuffer_0 rfl (lv_at hl 3 rfl) ?_
  refine lv_iconst (v := 0) hx hb dL_setBuffer_1 (by decide) ?_
  refine lv_aload_n hx hb dL_setBuffer_2 rfl (lv_at hl 0 rfl) ?_
  refine lv_iload_n hx hb dL_setBuffer_3 rfl (lv_at hl 1 rfl) ?_
  refine lv_iload_n hx hb dL_setBuffer_4 rfl (lv_at hl 2 rfl) ?_
  refine x_callVi (rest := [.int 0, .ref (ad 16)]) B G (c_X2_setBuffer_ok l DL V h4 h5 n y hn h1 h) (cwV 2 B.1.2.2.2.2 gL_setBuffer_X2_setBuffer rfl rfl rfl (by decide +kernel) ⟨Nat.le_of_ble_eq_true rfl, Nat.le_of_ble_eq_true rfl⟩) (d_recv B G DL.1) rfl hl.1 rfl (Nat.le_of_ble_eq_true rfl) ⟨Nat.zero_le _, Nat.zero_le _⟩ dL_setBuffer_5 (fun H locs G => ?_)
  refine lv_i2l hx hb dL_setBuffer_8 rfl ?_
  refine x_lst (x := (V 1 n)) B G h16 hT3 (by first | rfl | decide) dL_setBuffer_9 (fun H locs G => ?_)
  refine lv_goto (tgt := 25) hx hb dL_setBuffer_10 (by decide) ?_
  refine lv_iconst (v := 0) hx hb dL_setBuffer_25 (by decide) ?_
  exact vx_ret (x_aendi hA B G (⟨rfl, rfl, rfl, rfl⟩) (by decide) (by decide) dL_setBuffer_26)
set_option maxHeartbeats 1000000 in
set_option maxRecDepth 100000 in
theorem w_setBuffer_bad1 (l : Launch) (hst : l.stackTraces = false) {D : va_G} {sh : xS} {ad : Nat → Nat} {cI cZ cO cJ : ClassId} {tys : List (ClassId × FieldType)} {mi e0 : Nat} {sa : Nat → Nat} {nb : Nat} {od : Nat → Nat} (DW : xDw sh ad cI cZ cO tys e0 nb od) (h16 : sh 16 = some (oMk cJ)) (hT3 : tys[3]? = some (cJ, .long)) (V : xV) (h4 : V 4 2 = nI nb) (h5 : V 5 2 = nI nb) (x y : Int32) (h : ¬ (0 ≤ x ∧ x ≤ 7)) : xMw l yL_setBuffer wsL_setBuffer D sh ad tys mi e0 sa V [.ref (ad 0), .int x, .int y, .ref (ad 16)] (fun v sh' ad' V' => v = some (.int 1) ∧ sh' = sh ∧ ad' = ad ∧ V' = V) := by
  have DL := DW.dl
  refine xOfw (cc := cL_setBuffer) (nL := 5) (ret := some .int) (hh := [(0, 10, 13, 13), (0, 10, 17, 15), (0, 10, 21, 17)]) (own := RL) (by decide) rfl rfl (Nat.le_of_ble_eq_true rfl) DL.2.2.2.2.2.2.1.2.2 ?_
  intro p e s m args below meth c A ls hA htab B E F hN G hl
  have hx := B.1.1
  have hb := B.1.2.1
  have hl : lv_has ls 5 [(0, .ref (ad 0)), (1, .int x), (2, .int y), (3, .ref (ad 16))] := hl
  refine lv_aload_n hx hb dL_setBuffer_0 rfl (lv_at hl 3 rfl) ?_
  refine lv_iconst (v := 0) hx hb dL_setBuffer_1 (by decide) ?_
  refine lv_aload_n hx hb dL_setBuffer_2 rfl (lv_at hl 0 rfl) ?_
  refine lv_iload_n hx hb dL_setBuffer_3 rfl (lv_at hl 1 rfl) ?_
  refine lv_iload_n hx hb dL_setBuffer_4 rfl (lv_at hl 2 rfl) ?_
  refine x_callVc (rest := [.int 0, .ref (ad 16)]) B F G (c_X2_setBuffer_bad1 l hst DL V h4 h5 x y h) (cwV 2 B.1.2.2.2.2 gL_setBuffer_X2_setBuffer rfl rfl rfl (by decide +kernel) ⟨Nat.le_of_ble_eq_true rfl, Nat.le_of_ble_eq_true rfl⟩) (d_recv B G DL.1) rfl hl.1 rfl (Nat.le_of_ble_eq_true rfl) ⟨Nat.le_of_ble_eq_true rfl, Nat.le_of_ble_eq_true rfl⟩ dL_setBuffer_5 [] ⟨0, 10, 13, 13⟩ [⟨0, 10, 17, 15⟩, ⟨0, 10, 21, 17⟩] htab (fun z hz => nomatch hz) (by decide) (by decide) (by decide +kernel) (by decide +kernel) (fun q9 H locs G => ?_)
  refine lv_astore (lv' := [(4, .ref q9), (0, .ref (ad 0)), (1, .int x), (2, .int y), (3, .ref (ad 16))]) hx hb dL_setBuffer_13 hl (by decide) rfl (fun ls hl => ?_)
  refine lv_iconst (v := 1) hx hb dL_setBuffer_15 (by decide) ?_
  exact vx_ret (x_aendi hA B G (⟨rfl, rfl, rfl, rfl⟩) (by decide) (by decide) dL_setBuffer_16)
set_option maxHeartbeats 1000000 in
set_option maxRecDepth 100000 in
theorem w_setBuffer_bad2 (l : Launch) (hst : l.stackTraces = false) {D : va_G} {sh : xS} {ad : Nat → Nat} {cI cZ cO cJ : ClassId} {tys : List (ClassId × FieldType)} {mi e0 : Nat} {sa : Nat → Nat} {nb : Nat} {od : Nat → Nat} (DW : xDw sh ad cI cZ cO tys e0 nb od) (h16 : sh 16 = some (oMk cJ)) (hT3 : tys[3]? = some (cJ, .long)) (V : xV) (h4 : V 4 2 = nI nb) (h5 : V 5 2 = nI nb) (n : Nat) (y : Int32) (hn : n < 8) (h : ¬ (1 ≤ y ∧ y ≤ 8)) : xMw l yL_setBuffer wsL_setBuffer D sh ad tys mi e0 sa V [.ref (ad 0), .int (nI n), .int y, .ref (ad 16)] (fun v sh' ad' V' => v = some (.int 2) ∧ sh' = sh ∧ ad' = ad ∧ V' = V) := by
  have DL := DW.dl
  refine xOfw (cc := cL_setBuffer) (nL := 5) (ret := some .int) (hh := [(0, 10, 13, 13), (0, 10, 17, 15), (0, 10, 21, 17)]) (own := RL) (by decide) rfl rfl (Nat.le_of_ble_eq_true rfl) DL.2.2.2.2.2.2.1.2.2 ?_
  intro p e s m args below meth c A ls hA htab B E F hN G hl
  have hx := B.1.1
  have hb := B.1.2.1
  have hl : lv_has ls 5 [(0, .ref (ad 0)), (1, .int (nI n)), (2, .int y), (3, .ref (ad 16))] := hl
  refine lv_aload_n hx hb dL_setBuffer_0 rfl (lv_at hl 3 rfl) ?_
  refine lv_iconst (v := 0) hx hb dL_setBuffer_1 (by decide) ?_
  refine lv_aload_n hx hb dL_setBuffer_2 rfl (lv_at hl 0 rfl) ?_
  refine lv_iload_n hx hb dL_setBuffer_3 rfl (lv_at hl 1 rfl) ?_
  refine lv_iload_n hx hb dL_setBuffer_4 rfl (lv_at hl 2 rfl) ?_
  refine x_callVc (rest := [.int 0, .ref (ad 16)]) B F G (c_X2_setBuffer_bad2 l hst DL V h4 h5 n y hn h) (cwV 2 B.1.2.2.2.2 gL_setBuffer_X2_setBuffer rfl rfl rfl (by decide +kernel) ⟨Nat.le_of_ble_eq_true rfl, Nat.le_of_ble_eq_true rfl⟩) (d_recv B G DL.1) rfl hl.1 rfl (Nat.le_of_ble_eq_true rfl) ⟨Nat.le_of_ble_eq_true rfl, Nat.le_of_ble_eq_true rfl⟩ dL_setBuffer_5 [⟨0, 10, 13, 13⟩] ⟨0, 10, 17, 15⟩ [⟨0, 10, 21, 17⟩] htab (fun z hz => by
    simp only [List.mem_cons, List.not_mem_nil, or_false] at hz
    rcases hz with rfl
    · exact Or.inr ⟨(by decide), eIO, B.1.2.2.2.2 (.classLink RL 13 eIO) (by decide +kernel), hN.1⟩) (by decide) (by decide) (by decide +kernel) (by decide +kernel) (fun q9 H locs G => ?_)
  refine lv_astore (lv' := [(4, .ref q9), (0, .ref (ad 0)), (1, .int (nI n)), (2, .int y), (3, .ref (ad 16))]) hx hb dL_setBuffer_17 hl (by decide) rfl (fun ls hl => ?_)
  refine lv_iconst (v := 2) hx hb dL_setBuffer_19 (by decide) ?_
  exact vx_ret (x_aendi hA B G (⟨rfl, rfl, rfl, rfl⟩) (by decide) (by decide) dL_setBuffer_20)
set_option maxHeartbeats 1000000 in
set_option maxRecDepth 100000 in
theorem w_setBuffer_bad3 (l : Launch) (hst : l.stackTraces = false) {D : va_G} {sh : xS} {ad : Nat → Nat} {cI cZ cO cJ : ClassId} {tys : List (ClassId × FieldType)} {mi e0 : Nat} {sa : Nat → Nat} {nb : Nat} {od : Nat → Nat} (DW : xDw sh ad cI cZ cO tys e0 nb od) (h16 : sh 16 = some (oMk cJ)) (hT3 : tys[3]? = some (cJ, .long)) (V : xV) (h4 : V 4 2 = nI nb) (h5 : V 5 2 = nI nb) (n : Nat) (y : Int32) (hn : n < 8) (h1 : 1 ≤ y ∧ y ≤ 8) (h : ¬ nI (cntP (cHas V n) nb) ≤ y) : xMw l yL_setBuffer wsL_setBuffer D sh ad tys mi e0 sa V [.ref (ad 0), .int (nI n), .int y, .ref (ad 16)] (fun v sh' ad' V' => v = some (.int 3) ∧ sh' = sh ∧ ad' = ad ∧ V' = V) := by
  have DL := DW.dl
  refine xOfw (cc := cL_setBuffer) (nL := 5) (ret := some .int) (hh := [(0, 10, 13, 13), (0, 10, 17, 15), (0, 10, 21, 17)]) (own := RL) (by decide) rfl rfl (Nat.le_of_ble_eq_true rfl) DL.2.2.2.2.2.2.1.2.2 ?_
  intro p e s m args below meth c A ls hA htab B E F hN G hl
  have hx := B.1.1
  have hb := B.1.2.1
  have hl : lv_has ls 5 [(0, .ref (ad 0)), (1, .int (nI n)), (2, .int y), (3, .ref (ad 16))] := hl
  refine lv_aload_n hx hb dL_setBuffer_0 rfl (lv_at hl 3 rfl) ?_
  refine lv_iconst (v := 0) hx hb dL_setBuffer_1 (by decide) ?_
  refine lv_aload_n hx hb dL_setBuffer_2 rfl (lv_at hl 0 rfl) ?_
  refine lv_iload_n hx hb dL_setBuffer_3 rfl (lv_at hl 1 rfl) ?_
  refine lv_iload_n hx hb dL_setBuffer_4 rfl (lv_at hl 2 rfl) ?_
  refine x_callVc (rest := [.int 0, .ref (ad 16)]) B F G (c_X2_setBuffer_bad3 l hst DL V h4 h5 n y hn h1 h) (cwV 2 B.1.2.2.2.2 gL_setBuffer_X2_setBuffer rfl rfl rfl (by decide +kernel) ⟨Nat.le_of_ble_eq_true rfl, Nat.le_of_ble_eq_true rfl⟩) (d_recv B G DL.1) rfl hl.1 rfl (Nat.le_of_ble_eq_true rfl) ⟨Nat.le_of_ble_eq_true rfl, Nat.le_of_ble_eq_true rfl⟩ dL_setBuffer_5 [⟨0, 10, 13, 13⟩, ⟨0, 10, 17, 15⟩] ⟨0, 10, 21, 17⟩ [] htab (fun z hz => by
    simp only [List.mem_cons, List.not_mem_nil, or_false] at hz
    rcases hz with rfl | rfl
    · exact Or.inr ⟨(by decide), eIO, B.1.2.2.2.2 (.classLink RL 13 eIO) (by decide +kernel), hN.2.1⟩
    · exact Or.inr ⟨(by decide), eIA, B.1.2.2.2.2 (.classLink RL 15 eIA) (by decide +kernel), hN.2.2⟩) (by decide) (by decide) (by decide +kernel) (by decide +kernel) (fun q9 H locs G => ?_)
  refine lv_astore (lv' := [(4, .ref q9), (0, .ref (ad 0)), (1, .int (nI n)), (2, .int y), (3, .ref (ad 16))]) hx hb dL_setBuffer_21 hl (by decide) rfl (fun ls hl => ?_)
  refine lv_iconst (v := 3) hx hb dL_setBuffer_23 (by decide) ?_
  exact vx_ret (x_aendi hA B G (⟨rfl, rfl, rfl, rfl⟩) (by decide) (by decide) dL_setBuffer_24)
set_option maxHeartbeats 1000000 in
set_option maxRecDepth 100000 in
theorem w_addContact_ok (l : Launch) {D : va_G} {sh : xS} {ad : Nat → Nat} {cI cZ cO cJ : ClassId} {tys : List (ClassId × FieldType)} {mi e0 : Nat} {sa : Nat → Nat} {nb : Nat} {od : Nat → Nat} (DW : xDw sh ad cI cZ cO tys e0 nb od) (h16 : sh 16 = some (oMk cJ)) (hT3 : tys[3]? = some (cJ, .long)) (V : xV) (h4 : V 4 2 = nI nb) (h5 : V 5 2 = nI nb) (x y f g : Int32) (nc : Nat) (hx7 : 0 ≤ x ∧ x ≤ 7) (hy7 : 0 ≤ y ∧ y ≤ 7) (h : x ≠ y ∧ (0 ≤ f ∧ f ≤ 100000) ∧ (f ≤ g ∧ g ≤ 100000)) (hnc : V 6 6 = nI nc) (hc30 : nc < 30) : xMw l yL_addContact wsL_addContact D sh ad tys mi e0 sa V [.ref (ad 0), .int x, .int y, .int f, .int g, .ref (ad 16)] (fun v sh' ad' V' => v = some (.int 0) ∧ sh' = sh ∧ ad' = ad ∧ V' = xu (xu (xu (xu (xu (xu V 9 nc x) 10 nc y) 11 nc f) 12 nc g) 6 6 (nI (nc + 1))) 16 0 (nI (nc + 1))) := by
  have DL := DW.dl
  refine xOfw (cc := cL_addContact) (nL := 7) (ret := some .int) (hh := [(0, 14, 17, 13), (0, 14, 21, 15), (0, 14, 25, 17)]) (own := RL) (by decide) rfl rfl (Nat.le_of_ble_eq_true rfl) DL.2.2.2.2.2.2.1.2.2 ?_
  intro p e s m args below meth c A ls hA htab B E F hN G hl
  have hx := B.1.1
  have hb := B.1.2.1
  have hl : lv_has ls 7 [(0, .ref (ad 0)), (1, .int x), (2, .int y), (3, .int f), (4, .int g), (5, .ref (ad 16))] := hl
  refine lv_aload hx hb dL_addContact_0 (lv_at hl 5 rfl) ?_
  refine lv_iconst (v := 0) hx hb dL_addContact_2 (by decide) ?_
  refine lv_aload_n hx hb dL_addContact_3 rfl (lv_at hl 0 rfl) ?_
  refine lv_iload_n hx hb dL_addContact_4 rfl (lv_at hl 1 rfl) ?_
  refine lv_iload_n hx hb dL_addContact_5 rfl (lv_at hl 2 rfl) ?_
  refine lv_iload_n hx hb dL_addContact_6 rfl (lv_at hl 3 rfl) ?_
  refine lv_iload hx hb dL_addContact_7 (lv_at hl 4 rfl) ?_
  refine x_callVi (rest := [.int 0, .ref (ad 16)]) B G (c_X2_addContact_ok l DL V h4 h5 x y f g nc hx7 hy7 h hnc hc30) (cwV 4 B.1.2.2.2.2 gL_addContact_X2_addContact rfl rfl rfl (by decide +kernel) ⟨Nat.le_of_ble_eq_true rfl, Nat.le_of_ble_eq_true rfl⟩) (d_recv B G DL.1) rfl hl.1 rfl (Nat.le_of_ble_eq_true rfl) ⟨Nat.zero_le _, Nat.zero_le _⟩ dL_addContact_9 (fun H locs G => ?_)
  refine lv_i2l hx hb dL_addContact_12 rfl ?_
  refine x_lst (x := (nI (nc + 1))) B G h16 hT3 (by first | rfl | decide) dL_addContact_13 (fun H locs G => ?_)
  refine lv_goto (tgt := 29) hx hb dL_addContact_14 (by decide) ?_
  refine lv_iconst (v := 0) hx hb dL_addContact_29 (by decide) ?_
  exact vx_ret (x_aendi hA B G (⟨rfl, rfl, rfl, rfl⟩) (by decide) (by decide) dL_addContact_30)
set_option maxHeartbeats 1000000 in
set_option maxRecDepth 100000 in
theorem w_addContact_bad1 (l : Launch) (hst : l.stackTraces = false) {D : va_G} {sh : xS} {ad : Nat → Nat} {cI cZ cO cJ : ClassId} {tys : List (ClassId × FieldType)} {mi e0 : Nat} {sa : Nat → Nat} {nb : Nat} {od : Nat → Nat} (DW : xDw sh ad cI cZ cO tys e0 nb od) (h16 : sh 16 = some (oMk cJ)) (hT3 : tys[3]? = some (cJ, .long)) (V : xV) (h4 : V 4 2 = nI nb) (h5 : V 5 2 = nI nb) (x y f g : Int32) (h : ¬ ((0 ≤ x ∧ x ≤ 7) ∧ (0 ≤ y ∧ y ≤ 7))) : xMw l yL_addContact wsL_addContact D sh ad tys mi e0 sa V [.ref (ad 0), .int x, .int y, .int f, .int g, .ref (ad 16)] (fun v sh' ad' V' => v = some (.int 1) ∧ sh' = sh ∧ ad' = ad ∧ V' = V) := by
  have DL := DW.dl
  refine xOfw (cc := cL_addContact) (nL := 7) (ret := some .int) (hh := [(0, 14, 17, 13), (0, 14, 21, 15), (0, 14, 25, 17)]) (own := RL) (by decide) rfl rfl (Nat.le_of_ble_eq_true rfl) DL.2.2.2.2.2.2.1.2.2 ?_
  intro p e s m args below meth c A ls hA htab B E F hN G hl
  have hx := B.1.1
  have hb := B.1.2.1
  have hl : lv_has ls 7 [(0, .ref (ad 0)), (1, .int x), (2, .int y), (3, .int f), (4, .int g), (5, .ref (ad 16))] := hl
  refine lv_aload hx hb dL_addContact_0 (lv_at hl 5 rfl) ?_
  refine lv_iconst (v := 0) hx hb dL_addContact_2 (by decide) ?_
  refine lv_aload_n hx hb dL_addContact_3 rfl (lv_at hl 0 rfl) ?_
  refine lv_iload_n hx hb dL_addContact_4 rfl (lv_at hl 1 rfl) ?_
  refine lv_iload_n hx hb dL_addContact_5 rfl (lv_at hl 2 rfl) ?_
  refine lv_iload_n hx hb dL_addContact_6 rfl (lv_at hl 3 rfl) ?_
  refine lv_iload hx hb dL_addContact_7 (lv_at hl 4 rfl) ?_
  refine x_callVc (rest := [.int 0, .ref (ad 16)]) B F G (c_X2_addContact_bad1 l hst DL V h4 h5 x y f g h) (cwV 4 B.1.2.2.2.2 gL_addContact_X2_addContact rfl rfl rfl (by decide +kernel) ⟨Nat.le_of_ble_eq_true rfl, Nat.le_of_ble_eq_true rfl⟩) (d_recv B G DL.1) rfl hl.1 rfl (Nat.le_of_ble_eq_true rfl) ⟨Nat.le_of_ble_eq_true rfl, Nat.le_of_ble_eq_true rfl⟩ dL_addContact_9 [] ⟨0, 14, 17, 13⟩ [⟨0, 14, 21, 15⟩, ⟨0, 14, 25, 17⟩] htab (fun z hz => nomatch hz) (by decide) (by decide) (by decide +kernel) (by decide +kernel) (fun q9 H locs G => ?_)
  refine lv_astore (lv' := [(6, .ref q9), (0, .ref (ad 0)), (1, .int x), (2, .int y), (3, .int f), (4, .int g), (5, .ref (ad 16))]) hx hb dL_addContact_17 hl (by decide) rfl (fun ls hl => ?_)
  refine lv_iconst (v := 1) hx hb dL_addContact_19 (by decide) ?_
  exact vx_ret (x_aendi hA B G (⟨rfl, rfl, rfl, rfl⟩) (by decide) (by decide) dL_addContact_20)
set_option maxHeartbeats 1000000 in
set_option maxRecDepth 100000 in
theorem w_addContact_bad2 (l : Launch) (hst : l.stackTraces = false) {D : va_G} {sh : xS} {ad : Nat → Nat} {cI cZ cO cJ : ClassId} {tys : List (ClassId × FieldType)} {mi e0 : Nat} {sa : Nat → Nat} {nb : Nat} {od : Nat → Nat} (DW : xDw sh ad cI cZ cO tys e0 nb od) (h16 : sh 16 = some (oMk cJ)) (hT3 : tys[3]? = some (cJ, .long)) (V : xV) (h4 : V 4 2 = nI nb) (h5 : V 5 2 = nI nb) (x y f g : Int32) (hx7 : 0 ≤ x ∧ x ≤ 7) (hy7 : 0 ≤ y ∧ y ≤ 7) (h : ¬ (x ≠ y ∧ (0 ≤ f ∧ f ≤ 100000) ∧ (f ≤ g ∧ g ≤ 100000))) : xMw l yL_addContact wsL_addContact D sh ad tys mi e0 sa V [.ref (ad 0), .int x, .int y, .int f, .int g, .ref (ad 16)] (fun v sh' ad' V' => v = some (.int 2) ∧ sh' = sh ∧ ad' = ad ∧ V' = V) := by
  have DL := DW.dl
  refine xOfw (cc := cL_addContact) (nL := 7) (ret := some .int) (hh := [(0, 14, 17, 13), (0, 14, 21, 15), (0, 14, 25, 17)]) (own := RL) (by decide) rfl rfl (Nat.le_of_ble_eq_true rfl) DL.2.2.2.2.2.2.1.2.2 ?_
  intro p e s m args below meth c A ls hA htab B E F hN G hl
  have hx := B.1.1
  have hb := B.1.2.1
  have hl : lv_has ls 7 [(0, .ref (ad 0)), (1, .int x), (2, .int y), (3, .int f), (4, .int g), (5, .ref (ad 16))] := hl
  refine lv_aload hx hb dL_addContact_0 (lv_at hl 5 rfl) ?_
  refine lv_iconst (v := 0) hx hb dL_addContact_2 (by decide) ?_
  refine lv_aload_n hx hb dL_addContact_3 rfl (lv_at hl 0 rfl) ?_
  refine lv_iload_n hx hb dL_addContact_4 rfl (lv_at hl 1 rfl) ?_
  refine lv_iload_n hx hb dL_addContact_5 rfl (lv_at hl 2 rfl) ?_
  refine lv_iload_n hx hb dL_addContact_6 rfl (lv_at hl 3 rfl) ?_
  refine lv_iload hx hb dL_addContact_7 (lv_at hl 4 rfl) ?_
  refine x_callVc (rest := [.int 0, .ref (ad 16)]) B F G (c_X2_addContact_bad2 l hst DL V h4 h5 x y f g hx7 hy7 h) (cwV 4 B.1.2.2.2.2 gL_addContact_X2_addContact rfl rfl rfl (by decide +kernel) ⟨Nat.le_of_ble_eq_true rfl, Nat.le_of_ble_eq_true rfl⟩) (d_recv B G DL.1) rfl hl.1 rfl (Nat.le_of_ble_eq_true rfl) ⟨Nat.le_of_ble_eq_true rfl, Nat.le_of_ble_eq_true rfl⟩ dL_addContact_9 [⟨0, 14, 17, 13⟩] ⟨0, 14, 21, 15⟩ [⟨0, 14, 25, 17⟩] htab (fun z hz => by
    simp only [List.mem_cons, List.not_mem_nil, or_false] at hz
    rcases hz with rfl
    · exact Or.inr ⟨(by decide), eIO, B.1.2.2.2.2 (.classLink RL 13 eIO) (by decide +kernel), hN.1⟩) (by decide) (by decide) (by decide +kernel) (by decide +kernel) (fun q9 H locs G => ?_)
  refine lv_astore (lv' := [(6, .ref q9), (0, .ref (ad 0)), (1, .int x), (2, .int y), (3, .int f), (4, .int g), (5, .ref (ad 16))]) hx hb dL_addContact_21 hl (by decide) rfl (fun ls hl => ?_)
  refine lv_iconst (v := 2) hx hb dL_addContact_23 (by decide) ?_
  exact vx_ret (x_aendi hA B G (⟨rfl, rfl, rfl, rfl⟩) (by decide) (by decide) dL_addContact_24)
set_option maxHeartbeats 1000000 in
set_option maxRecDepth 100000 in
theorem w_addContact_bad3 (l : Launch) (hst : l.stackTraces = false) {D : va_G} {sh : xS} {ad : Nat → Nat} {cI cZ cO cJ : ClassId} {tys : List (ClassId × FieldType)} {mi e0 : Nat} {sa : Nat → Nat} {nb : Nat} {od : Nat → Nat} (DW : xDw sh ad cI cZ cO tys e0 nb od) (h16 : sh 16 = some (oMk cJ)) (hT3 : tys[3]? = some (cJ, .long)) (V : xV) (h4 : V 4 2 = nI nb) (h5 : V 5 2 = nI nb) (x y f g : Int32) (hx7 : 0 ≤ x ∧ x ≤ 7) (hy7 : 0 ≤ y ∧ y ≤ 7) (h : x ≠ y ∧ (0 ≤ f ∧ f ≤ 100000) ∧ (f ≤ g ∧ g ≤ 100000)) (h30 : ¬ V 6 6 < 30) : xMw l yL_addContact wsL_addContact D sh ad tys mi e0 sa V [.ref (ad 0), .int x, .int y, .int f, .int g, .ref (ad 16)] (fun v sh' ad' V' => v = some (.int 3) ∧ sh' = sh ∧ ad' = ad ∧ V' = V) := by
  have DL := DW.dl
  refine xOfw (cc := cL_addContact) (nL := 7) (ret := some .int) (hh := [(0, 14, 17, 13), (0, 14, 21, 15), (0, 14, 25, 17)]) (own := RL) (by decide) rfl rfl (Nat.le_of_ble_eq_true rfl) DL.2.2.2.2.2.2.1.2.2 ?_
  intro p e s m args below meth c A ls hA htab B E F hN G hl
  have hx := B.1.1
  have hb := B.1.2.1
  have hl : lv_has ls 7 [(0, .ref (ad 0)), (1, .int x), (2, .int y), (3, .int f), (4, .int g), (5, .ref (ad 16))] := hl
  refine lv_aload hx hb dL_addContact_0 (lv_at hl 5 rfl) ?_
  refine lv_iconst (v := 0) hx hb dL_addContact_2 (by decide) ?_
  refine lv_aload_n hx hb dL_addContact_3 rfl (lv_at hl 0 rfl) ?_
  refine lv_iload_n hx hb dL_addContact_4 rfl (lv_at hl 1 rfl) ?_
  refine lv_iload_n hx hb dL_addContact_5 rfl (lv_at hl 2 rfl) ?_
  refine lv_iload_n hx hb dL_addContact_6 rfl (lv_at hl 3 rfl) ?_
  refine lv_iload hx hb dL_addContact_7 (lv_at hl 4 rfl) ?_
  refine x_callVc (rest := [.int 0, .ref (ad 16)]) B F G (c_X2_addContact_bad3 l hst DL V h4 h5 x y f g hx7 hy7 h h30) (cwV 4 B.1.2.2.2.2 gL_addContact_X2_addContact rfl rfl rfl (by decide +kernel) ⟨Nat.le_of_ble_eq_true rfl, Nat.le_of_ble_eq_true rfl⟩) (d_recv B G DL.1) rfl hl.1 rfl (Nat.le_of_ble_eq_true rfl) ⟨Nat.le_of_ble_eq_true rfl, Nat.le_of_ble_eq_true rfl⟩ dL_addContact_9 [⟨0, 14, 17, 13⟩, ⟨0, 14, 21, 15⟩] ⟨0, 14, 25, 17⟩ [] htab (fun z hz => by
    simp only [List.mem_cons, List.not_mem_nil, or_false] at hz
    rcases hz with rfl | rfl
    · exact Or.inr ⟨(by decide), eIO, B.1.2.2.2.2 (.classLink RL 13 eIO) (by decide +kernel), hN.2.1⟩
    · exact Or.inr ⟨(by decide), eIA, B.1.2.2.2.2 (.classLink RL 15 eIA) (by decide +kernel), hN.2.2⟩) (by decide) (by decide) (by decide +kernel) (by decide +kernel) (fun q9 H locs G => ?_)
  refine lv_astore (lv' := [(6, .ref q9), (0, .ref (ad 0)), (1, .int x), (2, .int y), (3, .int f), (4, .int g), (5, .ref (ad 16))]) hx hb dL_addContact_25 hl (by decide) rfl (fun ls hl => ?_)
  refine lv_iconst (v := 3) hx hb dL_addContact_27 (by decide) ?_
  exact vx_ret (x_aendi hA B G (⟨rfl, rfl, rfl, rfl⟩) (by decide) (by decide) dL_addContact_28)
set_option maxHeartbeats 1000000 in
set_option maxRecDepth 100000 in
theorem w_meet_ok (l : Launch) {D : va_G} {sh : xS} {ad : Nat → Nat} {cI cZ cO cJ : ClassId} {tys : List (ClassId × FieldType)} {mi e0 : Nat} {sa : Nat → Nat} {nb : Nat} {od : Nat → Nat} (DW : xDw sh ad cI cZ cO tys e0 nb od) (h16 : sh 16 = some (oMk cJ)) (hT3 : tys[3]? = some (cJ, .long)) (V : xV) (h4 : V 4 2 = nI nb) (h5 : V 5 2 = nI nb) (a b nc : Nat) (most : Int32) (ha : a < 8) (hb8 : b < 8) (hab : a ≠ b) (hm : 0 ≤ most ∧ most ≤ 20) (hnc : V 6 6 = nI nc) (hc30 : nc ≤ 30) (hpl : cPl V nc) (hg : ∀ k, k < nb → V (20 + 4 * k) 1 = nI (V (20 + 4 * k) 1).toNatClampNeg ∧ (V (20 + 4 * k) 1).toNatClampNeg < 8) : xMw l yL_meet wsL_meet D sh ad tys mi e0 sa V [.ref (ad 0), .int (nI a), .int (nI b), .int most, .ref (ad 16)] (fun v sh' ad' V' => v = some (.int 0) ∧ sh' = sh ∧ ad' = ad ∧ V' = xu (cMv (cN3 V od a b nb most).2 a b nc nb) 16 0 ((cN2 V od a b nb most).1 + (cN3 V od a b nb most).1)) := by
  have DL := DW.dl
  refine xOfw (cc := cL_meet) (nL := 6) (ret := some .int) (hh := [(0, 12, 15, 13), (0, 12, 19, 15)]) (own := RL) (by decide) rfl rfl (Nat.le_of_ble_eq_true rfl) DL.2.2.2.2.2.2.1.2.2 ?_
  intro p e s m args below meth c A ls hA htab B E F hN G hl
  have hx := B.1.1
  have hb := B.1.2.1
  have hl : lv_has ls 6 [(0, .ref (ad 0)), (1, .int (nI a)), (2, .int (nI b)), (3, .int most), (4, .ref (ad 16))] := hl
  refine lv_aload hx hb dL_meet_0 (lv_at hl 4 rfl) ?_
  refine lv_iconst (v := 0) hx hb dL_meet_2 (by decide) ?_
  refine lv_aload_n hx hb dL_meet_3 rfl (lv_at hl 0 rfl) ?_
  refine lv_iload_n hx hb dL_meet_4 rfl (lv_at hl 1 rfl) ?_
  refine lv_iload_n hx hb dL_meet_5 rfl (lv_at hl 2 rfl) ?_
  refine lv_iload_n hx hb dL_meet_6 rfl (lv_at hl 3 rfl) ?_
  refine x_callVi (rest := [.int 0, .ref (ad 16)]) B G (c_X2_meet_ok l DL V h4 h5 a b nc most ha hb8 hab hm hnc hc30 hpl hg) (cwV 3 B.1.2.2.2.2 gL_meet_X2_meet rfl rfl rfl (by decide +kernel) ⟨Nat.le_of_ble_eq_true rfl, Nat.le_of_ble_eq_true rfl⟩) (d_recv B G DL.1) rfl hl.1 rfl (Nat.le_of_ble_eq_true rfl) ⟨Nat.zero_le _, Nat.zero_le _⟩ dL_meet_7 (fun H locs G => ?_)
  refine lv_i2l hx hb dL_meet_10 rfl ?_
  refine x_lst (x := ((cN2 V od a b nb most).1 + (cN3 V od a b nb most).1)) B G h16 hT3 (by first | rfl | decide) dL_meet_11 (fun H locs G => ?_)
  refine lv_goto (tgt := 23) hx hb dL_meet_12 (by decide) ?_
  refine lv_iconst (v := 0) hx hb dL_meet_23 (by decide) ?_
  exact vx_ret (x_aendi hA B G (⟨rfl, rfl, rfl, rfl⟩) (by decide) (by decide) dL_meet_24)
set_option maxHeartbeats 1000000 in
set_option maxRecDepth 100000 in
theorem w_meet_bad1 (l : Launch) (hst : l.stackTraces = false) {D : va_G} {sh : xS} {ad : Nat → Nat} {cI cZ cO cJ : ClassId} {tys : List (ClassId × FieldType)} {mi e0 : Nat} {sa : Nat → Nat} {nb : Nat} {od : Nat → Nat} (DW : xDw sh ad cI cZ cO tys e0 nb od) (h16 : sh 16 = some (oMk cJ)) (hT3 : tys[3]? = some (cJ, .long)) (V : xV) (h4 : V 4 2 = nI nb) (h5 : V 5 2 = nI nb) (x y z : Int32) (h : ¬ ((0 ≤ x ∧ x ≤ 7) ∧ (0 ≤ y ∧ y ≤ 7))) : xMw l yL_meet wsL_meet D sh ad tys mi e0 sa V [.ref (ad 0), .int x, .int y, .int z, .ref (ad 16)] (fun v sh' ad' V' => v = some (.int 1) ∧ sh' = sh ∧ ad' = ad ∧ V' = V) := by
  have DL := DW.dl
  refine xOfw (cc := cL_meet) (nL := 6) (ret := some .int) (hh := [(0, 12, 15, 13), (0, 12, 19, 15)]) (own := RL) (by decide) rfl rfl (Nat.le_of_ble_eq_true rfl) DL.2.2.2.2.2.2.1.2.2 ?_
  intro p e s m args below meth c A ls hA htab B E F hN G hl
  have hx := B.1.1
  have hb := B.1.2.1
  have hl : lv_has ls 6 [(0, .ref (ad 0)), (1, .int x), (2, .int y), (3, .int z), (4, .ref (ad 16))] := hl
  refine lv_aload hx hb dL_meet_0 (lv_at hl 4 rfl) ?_
  refine lv_iconst (v := 0) hx hb dL_meet_2 (by decide) ?_
  refine lv_aload_n hx hb dL_meet_3 rfl (lv_at hl 0 rfl) ?_
  refine lv_iload_n hx hb dL_meet_4 rfl (lv_at hl 1 rfl) ?_
  refine lv_iload_n hx hb dL_meet_5 rfl (lv_at hl 2 rfl) ?_
  refine lv_iload_n hx hb dL_meet_6 rfl (lv_at hl 3 rfl) ?_
  refine x_callVc (rest := [.int 0, .ref (ad 16)]) B F G (c_X2_meet_bad1 l hst DL V h4 h5 x y z h) (cwV 3 B.1.2.2.2.2 gL_meet_X2_meet rfl rfl rfl (by decide +kernel) ⟨Nat.le_of_ble_eq_true rfl, Nat.le_of_ble_eq_true rfl⟩) (d_recv B G DL.1) rfl hl.1 rfl (Nat.le_of_ble_eq_true rfl) ⟨Nat.le_of_ble_eq_true rfl, Nat.le_of_ble_eq_true rfl⟩ dL_meet_7 [] ⟨0, 12, 15, 13⟩ [⟨0, 12, 19, 15⟩] htab (fun z hz => nomatch hz) (by decide) (by decide) (by decide +kernel) (by decide +kernel) (fun q9 H locs G => ?_)
  refine lv_astore (lv' := [(5, .ref q9), (0, .ref (ad 0)), (1, .int x), (2, .int y), (3, .int z), (4, .ref (ad 16))]) hx hb dL_meet_15 hl (by decide) rfl (fun ls hl => ?_)
  refine lv_iconst (v := 1) hx hb dL_meet_17 (by decide) ?_
  exact vx_ret (x_aendi hA B G (⟨rfl, rfl, rfl, rfl⟩) (by decide) (by decide) dL_meet_18)
set_option maxHeartbeats 1000000 in
set_option maxRecDepth 100000 in
theorem w_meet_bad2 (l : Launch) (hst : l.stackTraces = false) {D : va_G} {sh : xS} {ad : Nat → Nat} {cI cZ cO cJ : ClassId} {tys : List (ClassId × FieldType)} {mi e0 : Nat} {sa : Nat → Nat} {nb : Nat} {od : Nat → Nat} (DW : xDw sh ad cI cZ cO tys e0 nb od) (h16 : sh 16 = some (oMk cJ)) (hT3 : tys[3]? = some (cJ, .long)) (V : xV) (h4 : V 4 2 = nI nb) (h5 : V 5 2 = nI nb) (x y z : Int32) (hx7 : 0 ≤ x ∧ x ≤ 7) (hy7 : 0 ≤ y ∧ y ≤ 7) (h : ¬ (x ≠ y ∧ (0 ≤ z ∧ z ≤ 20))) : xMw l yL_meet wsL_meet D sh ad tys mi e0 sa V [.ref (ad 0), .int x, .int y, .int z, .ref (ad 16)] (fun v sh' ad' V' => v = some (.int 2) ∧ sh' = sh ∧ ad' = ad ∧ V' = V) := by
  have DL := DW.dl
  refine xOfw (cc := cL_meet) (nL := 6) (ret := some .int) (hh := [(0, 12, 15, 13), (0, 12, 19, 15)]) (own := RL) (by decide) rfl rfl (Nat.le_of_ble_eq_true rfl) DL.2.2.2.2.2.2.1.2.2 ?_
  intro p e s m args below meth c A ls hA htab B E F hN G hl
  have hx := B.1.1
  have hb := B.1.2.1
  have hl : lv_has ls 6 [(0, .ref (ad 0)), (1, .int x), (2, .int y), (3, .int z), (4, .ref (ad 16))] := hl
  refine lv_aload hx hb dL_meet_0 (lv_at hl 4 rfl) ?_
  refine lv_iconst (v := 0) hx hb dL_meet_2 (by decide) ?_
  refine lv_aload_n hx hb dL_meet_3 rfl (lv_at hl 0 rfl) ?_
  refine lv_iload_n hx hb dL_meet_4 rfl (lv_at hl 1 rfl) ?_
  refine lv_iload_n hx hb dL_meet_5 rfl (lv_at hl 2 rfl) ?_
  refine lv_iload_n hx hb dL_meet_6 rfl (lv_at hl 3 rfl) ?_
  refine x_callVc (rest := [.int 0, .ref (ad 16)]) B F G (c_X2_meet_bad2 l hst DL V h4 h5 x y z hx7 hy7 h) (cwV 3 B.1.2.2.2.2 gL_meet_X2_meet rfl rfl rfl (by decide +kernel) ⟨Nat.le_of_ble_eq_true rfl, Nat.le_of_ble_eq_true rfl⟩) (d_recv B G DL.1) rfl hl.1 rfl (Nat.le_of_ble_eq_true rfl) ⟨Nat.le_of_ble_eq_true rfl, Nat.le_of_ble_eq_true rfl⟩ dL_meet_7 [⟨0, 12, 15, 13⟩] ⟨0, 12, 19, 15⟩ [] htab (fun z hz => by
    simp only [List.mem_cons, List.not_mem_nil, or_false] at hz
    rcases hz with rfl
    · exact Or.inr ⟨(by decide), eIO, B.1.2.2.2.2 (.classLink RL 13 eIO) (by decide +kernel), hN.1⟩) (by decide) (by decide) (by decide +kernel) (by decide +kernel) (fun q9 H locs G => ?_)
  refine lv_astore (lv' := [(5, .ref q9), (0, .ref (ad 0)), (1, .int x), (2, .int y), (3, .int z), (4, .ref (ad 16))]) hx hb dL_meet_19 hl (by decide) rfl (fun ls hl => ?_)
  refine lv_iconst (v := 2) hx hb dL_meet_21 (by decide) ?_
  exact vx_ret (x_aendi hA B G (⟨rfl, rfl, rfl, rfl⟩) (by decide) (by decide) dL_meet_22)
set_option maxHeartbeats 1000000 in
set_option maxRecDepth 100000 in
theorem w_send_bad1 (l : Launch) (hst : l.stackTraces = false) {D : va_G} {sh : xS} {ad : Nat → Nat} {cI cZ cO cJ : ClassId} {tys : List (ClassId × FieldType)} {mi e0 : Nat} {sa : Nat → Nat} {nb : Nat} {od : Nat → Nat} (DW : xDw sh ad cI cZ cO tys e0 nb od) (h16 : sh 16 = some (oMk cJ)) (hT3 : tys[3]? = some (cJ, .long)) (V : xV) (h4 : V 4 2 = nI nb) (h5 : V 5 2 = nI nb) (x y p0 c0 t0 : Int32) (h : ¬ ((0 ≤ x ∧ x ≤ 7) ∧ (0 ≤ y ∧ y ≤ 7))) : xMw l yL_send wsL_send D sh ad tys mi e0 sa V [.ref (ad 0), .int x, .int y, .int p0, .int c0, .int t0, .ref (ad 16)] (fun v sh' ad' V' => v = some (.int 1) ∧ sh' = sh ∧ ad' = ad ∧ V' = V) := by
  have DL := DW.dl
  refine xOfw (cc := cL_send) (nL := 8) (ret := some .int) (hh := [(0, 16, 19, 13), (0, 16, 23, 15), (0, 16, 27, 17)]) (own := RL) (by decide) rfl rfl (Nat.le_of_ble_eq_true rfl) DL.2.2.2.2.2.2.1.2.2 ?_
  intro p e s m args below meth c A ls hA htab B E F hN G hl
  have hx := B.1.1
  have hb := B.1.2.1
  have hl : lv_has ls 8 [(0, .ref (ad 0)), (1, .int x), (2, .int y), (3, .int p0), (4, .int c0), (5, .int t0), (6, .ref (ad 16))] := hl
  refine lv_aload hx hb dL_send_0 (lv_at hl 6 rfl) ?_
  refine lv_iconst (v := 0) hx hb dL_send_2 (by decide) ?_
  refine lv_aload_n hx hb dL_send_3 rfl (lv_at hl 0 rfl) ?_
  refine lv_iload_n hx hb dL_send_4 rfl (lv_at hl 1 rfl) ?_
  refine lv_iload_n hx hb dL_send_5 rfl (lv_at hl 2 rfl) ?_
  refine lv_iload_n hx hb dL_send_6 rfl (lv_at hl 3 rfl) ?_
  refine lv_iload hx hb dL_send_7 (lv_at hl 4 rfl) ?_
  refine lv_iload hx hb dL_send_9 (lv_at hl 5 rfl) ?_
  refine x_callVc (rest := [.int 0, .ref (ad 16)]) B F G (c_X2_send_bad1 l hst DL V h4 h5 x y p0 c0 t0 h) (cwV 5 B.1.2.2.2.2 gL_send_X2_send rfl rfl rfl (by decide +kernel) ⟨Nat.le_of_ble_eq_true rfl, Nat.le_of_ble_eq_true rfl⟩) (d_recv B G DL.1) rfl hl.1 rfl (Nat.le_of_ble_eq_true rfl) ⟨Nat.le_of_ble_eq_true rfl, Nat.le_of_ble_eq_true rfl⟩ dL_send_11 [] ⟨0, 16, 19, 13⟩ [⟨0, 16, 23, 15⟩, ⟨0, 16, 27, 17⟩] htab (fun z hz => nomatch hz) (by decide) (by decide) (by decide +kernel) (by decide +kernel) (fun q9 H locs G => ?_)
  refine lv_astore (lv' := [(7, .ref q9), (0, .ref (ad 0)), (1, .int x), (2, .int y), (3, .int p0), (4, .int c0), (5, .int t0), (6, .ref (ad 16))]) hx hb dL_send_19 hl (by decide) rfl (fun ls hl => ?_)
  refine lv_iconst (v := 1) hx hb dL_send_21 (by decide) ?_
  exact vx_ret (x_aendi hA B G (⟨rfl, rfl, rfl, rfl⟩) (by decide) (by decide) dL_send_22)
set_option maxHeartbeats 1000000 in
set_option maxRecDepth 100000 in
theorem w_send_bad2 (l : Launch) (hst : l.stackTraces = false) {D : va_G} {sh : xS} {ad : Nat → Nat} {cI cZ cO cJ : ClassId} {tys : List (ClassId × FieldType)} {mi e0 : Nat} {sa : Nat → Nat} {nb : Nat} {od : Nat → Nat} (DW : xDw sh ad cI cZ cO tys e0 nb od) (h16 : sh 16 = some (oMk cJ)) (hT3 : tys[3]? = some (cJ, .long)) (V : xV) (h4 : V 4 2 = nI nb) (h5 : V 5 2 = nI nb) (x y p0 c0 t0 : Int32) (hx7 : 0 ≤ x ∧ x ≤ 7) (hy7 : 0 ≤ y ∧ y ≤ 7) (h : ¬ (x ≠ y ∧ (0 ≤ p0 ∧ p0 ≤ 2) ∧ (1 ≤ c0 ∧ c0 ≤ 64) ∧ (1 ≤ t0 ∧ t0 ≤ 10000))) : xMw l yL_send wsL_send D sh ad tys mi e0 sa V [.ref (ad 0), .int x, .int y, .int p0, .int c0, .int t0, .ref (ad 16)] (fun v sh' ad' V' => v = some (.int 2) ∧ sh' = sh ∧ ad' = ad ∧ V' = V) := by
  have DL := DW.dl
  refine xOfw (cc := cL_send) (nL := 8) (ret := some .int) (hh := [(0, 16, 19, 13), (0, 16, 23, 15), (0, 16, 27, 17)]) (own := RL) (by decide) rfl rfl (Nat.le_of_ble_eq_true rfl) DL.2.2.2.2.2.2.1.2.2 ?_
  intro p e s m args below meth c A ls hA htab B E F hN G hl
  have hx := B.1.1
  have hb := B.1.2.1
  have hl : lv_has ls 8 [(0, .ref (ad 0)), (1, .int x), (2, .int y), (3, .int p0), (4, .int c0), (5, .int t0), (6, .ref (ad 16))] := hl
  refine lv_aload hx hb dL_send_0 (lv_at hl 6 rfl) ?_
  refine lv_iconst (v := 0) hx hb dL_send_2 (by decide) ?_
  refine lv_aload_n hx hb dL_send_3 rfl (lv_at hl 0 rfl) ?_
  refine lv_iload_n hx hb dL_send_4 rfl (lv_at hl 1 rfl) ?_
  refine lv_iload_n hx hb dL_send_5 rfl (lv_at hl 2 rfl) ?_
  refine lv_iload_n hx hb dL_send_6 rfl (lv_at hl 3 rfl) ?_
  refine lv_iload hx hb dL_send_7 (lv_at hl 4 rfl) ?_
  refine lv_iload hx hb dL_send_9 (lv_at hl 5 rfl) ?_
  refine x_callVc (rest := [.int 0, .ref (ad 16)]) B F G (c_X2_send_bad2 l hst DL V h4 h5 x y p0 c0 t0 hx7 hy7 h) (cwV 5 B.1.2.2.2.2 gL_send_X2_send rfl rfl rfl (by decide +kernel) ⟨Nat.le_of_ble_eq_true rfl, Nat.le_of_ble_eq_true rfl⟩) (d_recv B G DL.1) rfl hl.1 rfl (Nat.le_of_ble_eq_true rfl) ⟨Nat.le_of_ble_eq_true rfl, Nat.le_of_ble_eq_true rfl⟩ dL_send_11 [⟨0, 16, 19, 13⟩] ⟨0, 16, 23, 15⟩ [⟨0, 16, 27, 17⟩] htab (fun z hz => by
    simp only [List.mem_cons, List.not_mem_nil, or_false] at hz
    rcases hz with rfl
    · exact Or.inr ⟨(by decide), eIO, B.1.2.2.2.2 (.classLink RL 13 eIO) (by decide +kernel), hN.1⟩) (by decide) (by decide) (by decide +kernel) (by decide +kernel) (fun q9 H locs G => ?_)
  refine lv_astore (lv' := [(7, .ref q9), (0, .ref (ad 0)), (1, .int x), (2, .int y), (3, .int p0), (4, .int c0), (5, .int t0), (6, .ref (ad 16))]) hx hb dL_send_23 hl (by decide) rfl (fun ls hl => ?_)
  refine lv_iconst (v := 2) hx hb dL_send_25 (by decide) ?_
  exact vx_ret (x_aendi hA B G (⟨rfl, rfl, rfl, rfl⟩) (by decide) (by decide) dL_send_26)
set_option maxHeartbeats 1000000 in
set_option maxRecDepth 100000 in
theorem w_send_bad3 (l : Launch) (hst : l.stackTraces = false) {D : va_G} {sh : xS} {ad : Nat → Nat} {cI cZ cO cJ : ClassId} {tys : List (ClassId × FieldType)} {mi e0 : Nat} {sa : Nat → Nat} {nb : Nat} {od : Nat → Nat} (DW : xDw sh ad cI cZ cO tys e0 nb od) (h16 : sh 16 = some (oMk cJ)) (hT3 : tys[3]? = some (cJ, .long)) (V : xV) (h4 : V 4 2 = nI nb) (h5 : V 5 2 = nI nb) (x y p0 c0 t0 : Int32) (hx7 : 0 ≤ x ∧ x ≤ 7) (hy7 : 0 ≤ y ∧ y ≤ 7) (h : x ≠ y ∧ (0 ≤ p0 ∧ p0 ≤ 2) ∧ (1 ≤ c0 ∧ c0 ≤ 64) ∧ (1 ≤ t0 ∧ t0 ≤ 10000)) (h40 : nb = 40) : xMw l yL_send wsL_send D sh ad tys mi e0 sa V [.ref (ad 0), .int x, .int y, .int p0, .int c0, .int t0, .ref (ad 16)] (fun v sh' ad' V' => v = some (.int 3) ∧ sh' = sh ∧ ad' = ad ∧ V' = V) := by
  have DL := DW.dl
  refine xOfw (cc := cL_send) (nL := 8) (ret := some .int) (hh := [(0, 16, 19, 13), (0, 16, 23, 15), (0, 16, 27, 17)]) (own := RL) (by decide) rfl rfl (Nat.le_of_ble_eq_true rfl) DL.2.2.2.2.2.2.1.2.2 ?_
  intro p e s m args below meth c A ls hA htab B E F hN G hl
  have hx := B.1.1
  have hb := B.1.2.1
  have hl : lv_has ls 8 [(0, .ref (ad 0)), (1, .int x), (2, .int y), (3, .int p0), (4, .int c0), (5, .int t0), (6, .ref (ad 16))] := hl
  refine lv_aload hx hb dL_send_0 (lv_at hl 6 rfl) ?_
  refine lv_iconst (v := 0) hx hb dL_send_2 (by decide) ?_
  refine lv_aload_n hx hb dL_send_3 rfl (lv_at hl 0 rfl) ?_
  refine lv_iload_n hx hb dL_send_4 rfl (lv_at hl 1 rfl) ?_
  refine lv_iload_n hx hb dL_send_5 rfl (lv_at hl 2 rfl) ?_
  refine lv_iload_n hx hb dL_send_6 rfl (lv_at hl 3 rfl) ?_
  refine lv_iload hx hb dL_send_7 (lv_at hl 4 rfl) ?_
  refine lv_iload hx hb dL_send_9 (lv_at hl 5 rfl) ?_
  refine x_callVc (rest := [.int 0, .ref (ad 16)]) B F G (c_X2_send_bad3 l hst DL V h4 h5 x y p0 c0 t0 hx7 hy7 h h40) (cwV 5 B.1.2.2.2.2 gL_send_X2_send rfl rfl rfl (by decide +kernel) ⟨Nat.le_of_ble_eq_true rfl, Nat.le_of_ble_eq_true rfl⟩) (d_recv B G DL.1) rfl hl.1 rfl (Nat.le_of_ble_eq_true rfl) ⟨Nat.le_of_ble_eq_true rfl, Nat.le_of_ble_eq_true rfl⟩ dL_send_11 [⟨0, 16, 19, 13⟩, ⟨0, 16, 23, 15⟩] ⟨0, 16, 27, 17⟩ [] htab (fun z hz => by
    simp only [List.mem_cons, List.not_mem_nil, or_false] at hz
    rcases hz with rfl | rfl
    · exact Or.inr ⟨(by decide), eIO, B.1.2.2.2.2 (.classLink RL 13 eIO) (by decide +kernel), hN.2.1⟩
    · exact Or.inr ⟨(by decide), eIA, B.1.2.2.2.2 (.classLink RL 15 eIA) (by decide +kernel), hN.2.2⟩) (by decide) (by decide) (by decide +kernel) (by decide +kernel) (fun q9 H locs G => ?_)
  refine lv_astore (lv' := [(7, .ref q9), (0, .ref (ad 0)), (1, .int x), (2, .int y), (3, .int p0), (4, .int c0), (5, .int t0), (6, .ref (ad 16))]) hx hb dL_send_27 hl (by decide) rfl (fun ls hl => ?_)
  refine lv_iconst (v := 3) hx hb dL_send_29 (by decide) ?_
  exact vx_ret (x_aendi hA B G (⟨rfl, rfl, rfl, rfl⟩) (by decide) (by decide) dL_send_30)
set_option maxHeartbeats 1000000 in
set_option maxRecDepth 100000 in
theorem w_send_bad4 (l : Launch) (hst : l.stackTraces = false) {D : va_G} {sh : xS} {ad : Nat → Nat} {cI cZ cO cJ : ClassId} {tys : List (ClassId × FieldType)} {mi e0 : Nat} {sa : Nat → Nat} {nb : Nat} {od : Nat → Nat} (DW : xDw sh ad cI cZ cO tys e0 nb od) (h16 : sh 16 = some (oMk cJ)) (hT3 : tys[3]? = some (cJ, .long)) (V : xV) (h4 : V 4 2 = nI nb) (h5 : V 5 2 = nI nb) (n : Nat) (y p0 c0 t0 : Int32) (hn : n < 8) (hy7 : 0 ≤ y ∧ y ≤ 7) (h : nI n ≠ y ∧ (0 ≤ p0 ∧ p0 ≤ 2) ∧ (1 ≤ c0 ∧ c0 ≤ 64) ∧ (1 ≤ t0 ∧ t0 ≤ 10000)) (h40 : nb < 40) (hr : ¬ cRoomB V od n p0 nb = true) : xMw l yL_send wsL_send D sh ad tys mi e0 sa V [.ref (ad 0), .int (nI n), .int y, .int p0, .int c0, .int t0, .ref (ad 16)] (fun v sh' ad' V' => v = some (.int 3) ∧ sh' = sh ∧ ad' = ad ∧ V' = cRoomV V od n p0 nb) := by
  have DL := DW.dl
  refine xOfw (cc := cL_send) (nL := 8) (ret := some .int) (hh := [(0, 16, 19, 13), (0, 16, 23, 15), (0, 16, 27, 17)]) (own := RL) (by decide) rfl rfl (Nat.le_of_ble_eq_true rfl) DL.2.2.2.2.2.2.1.2.2 ?_
  intro p e s m args below meth c A ls hA htab B E F hN G hl
  have hx := B.1.1
  have hb := B.1.2.1
  have hl : lv_has ls 8 [(0, .ref (ad 0)), (1, .int (nI n)), (2, .int y), (3, .int p0), (4, .int c0), (5, .int t0), (6, .ref (ad 16))] := hl
  refine lv_aload hx hb dL_send_0 (lv_at hl 6 rfl) ?_
  refine lv_iconst (v := 0) hx hb dL_send_2 (by decide) ?_
  refine lv_aload_n hx hb dL_send_3 rfl (lv_at hl 0 rfl) ?_
  refine lv_iload_n hx hb dL_send_4 rfl (lv_at hl 1 rfl) ?_
  refine lv_iload_n hx hb dL_send_5 rfl (lv_at hl 2 rfl) ?_
  refine lv_iload_n hx hb dL_send_6 rfl (lv_at hl 3 rfl) ?_
  refine lv_iload hx hb dL_send_7 (lv_at hl 4 rfl) ?_
  refine lv_iload hx hb dL_send_9 (lv_at hl 5 rfl) ?_
  refine x_callVc (rest := [.int 0, .ref (ad 16)]) B F G (c_X2_send_bad4 l hst DL V h4 h5 n y p0 c0 t0 hn hy7 h h40 hr) (cwV 5 B.1.2.2.2.2 gL_send_X2_send rfl rfl rfl (by decide +kernel) ⟨Nat.le_of_ble_eq_true rfl, Nat.le_of_ble_eq_true rfl⟩) (d_recv B G DL.1) rfl hl.1 rfl (Nat.le_of_ble_eq_true rfl) ⟨Nat.le_of_ble_eq_true rfl, Nat.le_of_ble_eq_true rfl⟩ dL_send_11 [⟨0, 16, 19, 13⟩, ⟨0, 16, 23, 15⟩] ⟨0, 16, 27, 17⟩ [] htab (fun z hz => by
    simp only [List.mem_cons, List.not_mem_nil, or_false] at hz
    rcases hz with rfl | rfl
    · exact Or.inr ⟨(by decide), eIO, B.1.2.2.2.2 (.classLink RL 13 eIO) (by decide +kernel), hN.2.1⟩
    · exact Or.inr ⟨(by decide), eIA, B.1.2.2.2.2 (.classLink RL 15 eIA) (by decide +kernel), hN.2.2⟩) (by decide) (by decide) (by decide +kernel) (by decide +kernel) (fun q9 H locs G => ?_)
  refine lv_astore (lv' := [(7, .ref q9), (0, .ref (ad 0)), (1, .int (nI n)), (2, .int y), (3, .int p0), (4, .int c0), (5, .int t0), (6, .ref (ad 16))]) hx hb dL_send_27 hl (by decide) rfl (fun ls hl => ?_)
  refine lv_iconst (v := 3) hx hb dL_send_29 (by decide) ?_
  exact vx_ret (x_aendi hA B G (⟨rfl, rfl, rfl, rfl⟩) (by decide) (by decide) dL_send_30)
set_option maxHeartbeats 1000000 in
set_option maxRecDepth 100000 in
theorem w_knows_ok (l : Launch) {D : va_G} {sh : xS} {ad : Nat → Nat} {cI cZ cO cJ : ClassId} {tys : List (ClassId × FieldType)} {mi e0 : Nat} {sa : Nat → Nat} {nb : Nat} {od : Nat → Nat} (DW : xDw sh ad cI cZ cO tys e0 nb od) (h16 : sh 16 = some (oMk cJ)) (hT3 : tys[3]? = some (cJ, .long)) (V : xV) (h4 : V 4 2 = nI nb) (h5 : V 5 2 = nI nb) (n k : Nat) (hn : n < 8) (hk : k < nb) (hz : V (20 + 4 * k + 3) n = 0 ∨ V (20 + 4 * k + 3) n = 1) : xMw l yL_knows wsL_knows D sh ad tys mi e0 sa V [.ref (ad 0), .int (nI n), .int (nI k), .ref (ad 16)] (fun v sh' ad' V' => v = some (.int 0) ∧ sh' = sh ∧ ad' = ad ∧ V' = xu V 16 0 (V (20 + 4 * k + 3) n)) := by
  have DL := DW.dl
  refine xOfw (cc := cL_knows) (nL := 5) (ret := some .int) (hh := [(0, 17, 20, 13)]) (own := RL) (by decide) rfl rfl (Nat.le_of_ble_eq_true rfl) DL.2.2.2.2.2.2.1.2.2 ?_
  intro p e s m args below meth c A ls hA htab B E F hN G hl
  have hx := B.1.1
  have hb := B.1.2.1
  have hl : lv_has ls 5 [(0, .ref (ad 0)), (1, .int (nI n)), (2, .int (nI k)), (3, .ref (ad 16))] := hl
  refine lv_aload_n hx hb dL_knows_0 rfl (lv_at hl 3 rfl) ?_
  refine lv_iconst (v := 0) hx hb dL_knows_1 (by decide) ?_
  refine lv_aload_n hx hb dL_knows_2 rfl (lv_at hl 0 rfl) ?_
  refine lv_iload_n hx hb dL_knows_3 rfl (lv_at hl 1 rfl) ?_
  refine lv_iload_n hx hb dL_knows_4 rfl (lv_at hl 2 rfl) ?_
  refine x_callVi (rest := [.int 0, .ref (ad 16)]) B G (c_X2_knows_ok l DL V h4 h5 n k hn hk hz) (cwV 2 B.1.2.2.2.2 gL_knows_X2_knows rfl rfl rfl (by decide +kernel) ⟨Nat.le_of_ble_eq_true rfl, Nat.le_of_ble_eq_true rfl⟩) (d_recv B G DL.1) rfl hl.1 rfl (Nat.le_of_ble_eq_true rfl) ⟨Nat.zero_le _, Nat.zero_le _⟩ dL_knows_5 (fun H locs G => ?_)
  refine lv_if_eq (tgt := 15) hx hb dL_knows_8 (by decide) (fun c_8 => ?_) (fun c_8 => ?_)
  · skip
    refine lv_lconst (v := 0) hx hb dL_knows_15 rfl ?_
    refine x_lst (x := 0) B G h16 hT3 (by first | rfl | decide) dL_knows_16 (fun H locs G => ?_)
    refine lv_goto (tgt := 24) hx hb dL_knows_17 (by decide) ?_
    refine lv_iconst (v := 0) hx hb dL_knows_24 (by decide) ?_
    exact vx_ret (x_aendi hA B G (⟨rfl, rfl, rfl, by rw [c_8]⟩) (by decide) (by decide) dL_knows_25)
  · skip
    refine lv_lconst (v := 1) hx hb dL_knows_11 rfl ?_
    refine lv_goto (tgt := 16) hx hb dL_knows_12 (by decide) ?_
    refine x_lst (x := 1) B G h16 hT3 (by first | rfl | decide) dL_knows_16 (fun H locs G => ?_)
    refine lv_goto (tgt := 24) hx hb dL_knows_17 (by decide) ?_
    refine lv_iconst (v := 0) hx hb dL_knows_24 (by decide) ?_
    exact vx_ret (x_aendi hA B G (⟨rfl, rfl, rfl, by rw [hz.resolve_left c_8]⟩) (by decide) (by decide) dL_knows_25)
set_option maxHeartbeats 1000000 in
set_option maxRecDepth 100000 in
theorem w_send_ok (l : Launch) {D : va_G} {sh : xS} {ad : Nat → Nat} {cI cZ cO cJ : ClassId} {tys : List (ClassId × FieldType)} {mi e0 : Nat} {sa : Nat → Nat} {nb : Nat} {od : Nat → Nat} (DW : xDw sh ad cI cZ cO tys e0 nb od) (h16 : sh 16 = some (oMk cJ)) (hT3 : tys[3]? = some (cJ, .long)) (V : xV) (h4 : V 4 2 = nI nb) (h5 : V 5 2 = nI nb) (n : Nat) (y p0 c0 t0 : Int32) (hn : n < 8) (hy7 : 0 ≤ y ∧ y ≤ 7) (h : nI n ≠ y ∧ (0 ≤ p0 ∧ p0 ≤ 2) ∧ (1 ≤ c0 ∧ c0 ≤ 64) ∧ (1 ≤ t0 ∧ t0 ≤ 10000)) (h40 : nb < 40) (hr : cRoomB V od n p0 nb = true) : xMw l yL_send wsL_send D sh ad tys mi e0 sa V [.ref (ad 0), .int (nI n), .int y, .int p0, .int c0, .int t0, .ref (ad 16)] (fun v sh' ad' V' => ∃ (P : Nat) (V2 : xV), v = some (.int 0) ∧ P ≤ nb ∧ V' = xu V2 16 0 (nI nb) ∧ xDw sh' ad' cI cZ cO tys e0 (nb + 1) (insOd od P nb) ∧ ad' 0 = ad 0 ∧ sh' 16 = sh 16 ∧ ad' 16 = ad 16 ∧ (∀ j, j < P → ¬ bBef V2 (20 + 4 * nb) (20 + 4 * od j) = true) ∧ (P < nb → bBef V2 (20 + 4 * nb) (20 + 4 * od P) = true) ∧ (∀ j, j < 20 + 4 * nb → j ≠ 4 → j ≠ 5 → V2 j = cRoomV V od n p0 nb j) ∧ V2 4 2 = nI (nb + 1) ∧ V2 5 2 = nI (nb + 1) ∧ V2 (20 + 4 * nb) = upd (upd (upd (upd (upd (upd (upd (upd (upd (fun _ => 0) 0 (nI nb)) 1 y) 2 p0) 3 (V 0 0 + t0)) 7 (-1)) 8 (-1)) 9 0) 10 (-1)) 7 (nI n) ∧ V2 (20 + 4 * nb + 1) = upd (fun _ => 0) n c0 ∧ V2 (20 + 4 * nb + 2) = upd (fun _ => 0) n 0 ∧ V2 (20 + 4 * nb + 3) = (fun _ => 0)) := by
  have DL := DW.dl
  refine xOfw (cc := cL_send) (nL := 8) (ret := some .int) (hh := [(0, 16, 19, 13), (0, 16, 23, 15), (0, 16, 27, 17)]) (own := RL) (by decide) rfl rfl (Nat.le_of_ble_eq_true rfl) DL.2.2.2.2.2.2.1.2.2 ?_
  intro p e s m args below meth c A ls hA htab B E F hN G hl
  have hx := B.1.1
  have hb := B.1.2.1
  have hl : lv_has ls 8 [(0, .ref (ad 0)), (1, .int (nI n)), (2, .int y), (3, .int p0), (4, .int c0), (5, .int t0), (6, .ref (ad 16))] := hl
  refine lv_aload hx hb dL_send_0 (lv_at hl 6 rfl) ?_
  refine lv_iconst (v := 0) hx hb dL_send_2 (by decide) ?_
  refine lv_aload_n hx hb dL_send_3 rfl (lv_at hl 0 rfl) ?_
  refine lv_iload_n hx hb dL_send_4 rfl (lv_at hl 1 rfl) ?_
  refine lv_iload_n hx hb dL_send_5 rfl (lv_at hl 2 rfl) ?_
  refine lv_iload_n hx hb dL_send_6 rfl (lv_at hl 3 rfl) ?_
  refine lv_iload hx hb dL_send_7 (lv_at hl 4 rfl) ?_
  refine lv_iload hx hb dL_send_9 (lv_at hl 5 rfl) ?_
  refine x_callVa (rest := [.int 0, .ref (ad 16)]) B E G (c_X2_send_ok l DW V h4 h5 n y p0 c0 t0 hn hy7 h h40 hr) (cwV 5 B.1.2.2.2.2 gL_send_X2_send rfl rfl rfl (by decide +kernel) ⟨Nat.le_of_ble_eq_true rfl, Nat.le_of_ble_eq_true rfl⟩) (d_recv B G DL.1) rfl hl.1 rfl (Nat.le_of_ble_eq_true rfl) ⟨Nat.le_of_ble_eq_true rfl, Nat.le_of_ble_eq_true rfl⟩ dL_send_11 (fun v sh2 ad2 V2 H locs hR B G => ?_)
  obtain ⟨P, rfl, r1, r2, r3, s16, e16, r4⟩ := hR
  refine W.eq (g2 := F0 m 14 ls [.int (nI nb), .int 0, .ref (ad2 16)]) (by rw [e16]; rfl) ?_
  refine lv_i2l hx hb dL_send_14 rfl ?_
  refine x_lst (x := nI nb) B G (s16.trans h16) hT3 rfl dL_send_15 (fun H locs G => ?_)
  refine lv_goto (tgt := 31) hx hb dL_send_16 (by decide) ?_
  refine lv_iconst (v := 0) hx hb dL_send_31 (by decide) ?_
  exact vx_ret (x_aendi hA B G (⟨P, V2, rfl, r1, rfl, r2, r3, s16, e16, r4⟩) (by decide) (by decide) dL_send_32)
