theorem xu_row (V : xV) (i k : Nat) (x : Int32) (j : Nat) : xu V i k x i j = if j = k then x else V i j := by rw [xu_same]; rfl
set_option maxHeartbeats 4000000 in
set_option maxRecDepth 100000 in
theorem c_X0_isAt (l : Launch) {D : va_G} {sh : xS} {ad : Nat → Nat} {cI cZ : ClassId} {tys : List (ClassId × FieldType)} (Cx : xCx sh ad cI cZ tys) (V : xV) (b : Nat) (Bu : xBu sh ad cI cZ b) (n : Nat) (hn : n < 8) : xMi l yX0_isAt wsX0_isAt (rmK 0) D sh ad tys V [.ref (ad b), .int (nI n)] (b2i (0 < V (b + 1) n)) V := by
  refine xOfi (cc := cX0_isAt) (nL := 2) (ret := some .boolean) (own := RX0) (by decide) rfl rfl (Nat.le_of_ble_eq_true rfl) Cx.2.2 ?_
  intro p e s m args below meth c A ls B G hl
  have hx := B.1.1
  have hb := B.1.2.1
  have hin0 : ∀ w ∈ wsX00, w ∈ wsX0_isAt := by decide +kernel
  have hl : lv_has ls 2 [(0, .ref (ad b)), (1, .int (nI n))] := hl
  refine lv_aload_n hx hb dX0_isAt_0 rfl (lv_at hl 0 rfl) ?_
  refine b_getA B G Bu hin0 4 (by decide) (by decide +kernel) dX0_isAt_1 ?_
  refine lv_iload_n hx hb dX0_isAt_4 rfl (lv_at hl 1 rfl) ?_
  refine x_ald B G (b + 1) Bu.2.1 0 Cx.1 n (show n < 8 from by omega) rfl (by decide) dX0_isAt_5 ?_
  refine lv_if_le (tgt := 13) hx hb dX0_isAt_6 (by decide) (fun c_6 => ?_) (fun c_6 => ?_)
  · skip
    refine lv_iconst (v := 0) hx hb dX0_isAt_13 (by decide) ?_
    exact x_zret B G (Or.inl rfl) ((b2i_f (i_nlt.mpr c_6)).symm) (rfl) dX0_isAt_14
  · skip
    refine lv_iconst (v := 1) hx hb dX0_isAt_9 (by decide) ?_
    refine lv_goto (tgt := 14) hx hb dX0_isAt_10 (by decide) ?_
    exact x_zret B G (Or.inr rfl) ((b2i_t (i_nle.mp c_6)).symm) (rfl) dX0_isAt_14
set_option maxHeartbeats 4000000 in
set_option maxRecDepth 100000 in
theorem c_X0_canDeliver (l : Launch) {D : va_G} {sh : xS} {ad : Nat → Nat} {cI cZ : ClassId} {tys : List (ClassId × FieldType)} (Cx : xCx sh ad cI cZ tys) (V : xV) (b : Nat) (Bu : xBu sh ad cI cZ b) (n d : Nat) (hn : n < 8) : xMi l yX0_canDeliver wsX0_canDeliver (rmK 1) D sh ad tys V [.ref (ad b), .int (nI n), .int (nI d)] (b2i (0 < V (b + 1) n ∧ V b 1 = nI d)) V := by
  refine xOfi (cc := cX0_canDeliver) (nL := 3) (ret := some .boolean) (own := RX0) (by decide) rfl rfl (Nat.le_of_ble_eq_true rfl) Cx.2.2 ?_
  intro p e s m args below meth c A ls B G hl
  have hx := B.1.1
  have hb := B.1.2.1
  have hin0 : ∀ w ∈ wsX00, w ∈ wsX0_canDeliver := by decide +kernel
  have hl : lv_has ls 3 [(0, .ref (ad b)), (1, .int (nI n)), (2, .int (nI d))] := hl
  refine lv_aload_n hx hb dX0_canDeliver_0 rfl (lv_at hl 0 rfl) ?_
  refine lv_iload_n hx hb dX0_canDeliver_1 rfl (lv_at hl 1 rfl) ?_
  refine x_callVi (rest := []) B G (c_X0_isAt l Cx V b Bu n (by omega)) (cwV 1 B.1.2.2.2.2 gX0_canDeliver_X0_isAt rfl rfl rfl (by decide +kernel) ⟨Nat.le_of_ble_eq_true rfl, Nat.le_of_ble_eq_true rfl⟩) (b_recv B G Bu) rfl hl.1 rfl (Nat.le_of_ble_eq_true rfl) ⟨Nat.zero_le _, Nat.zero_le _⟩ dX0_canDeliver_2 (fun H locs G => ?_)
  refine lv_if_eq (tgt := 20) hx hb dX0_canDeliver_5 (by decide) (fun c_5 => ?_) (fun c_5 => ?_)
  · skip
    refine lv_iconst (v := 0) hx hb dX0_canDeliver_20 (by decide) ?_
    exact x_zret B G (Or.inl rfl) ((b2i_f (fun z => b2i_0.mp c_5 z.1)).symm) (rfl) dX0_canDeliver_21
  · skip
    refine lv_aload_n hx hb dX0_canDeliver_8 rfl (lv_at hl 0 rfl) ?_
    refine b_getI B G Bu hin0 1 (by decide) (by decide +kernel) dX0_canDeliver_9 ?_
    refine lv_iload_n hx hb dX0_canDeliver_12 rfl (lv_at hl 2 rfl) ?_
    refine lv_icmp_ne (tgt := 20) hx hb dX0_canDeliver_13 (by decide) (fun c_13 => ?_) (fun c_13 => ?_)
    · skip
      refine lv_iconst (v := 0) hx hb dX0_canDeliver_20 (by decide) ?_
      exact x_zret B G (Or.inl rfl) ((b2i_f (fun z => c_13 z.2)).symm) (rfl) dX0_canDeliver_21
    · skip
      refine lv_iconst (v := 1) hx hb dX0_canDeliver_16 (by decide) ?_
      refine lv_goto (tgt := 21) hx hb dX0_canDeliver_17 (by decide) ?_
      exact x_zret B G (Or.inr rfl) ((b2i_t ⟨b2i_1 c_5, c_13⟩).symm) (rfl) dX0_canDeliver_21
set_option maxHeartbeats 4000000 in
set_option maxRecDepth 100000 in
theorem c_X0_canSpray (l : Launch) {D : va_G} {sh : xS} {ad : Nat → Nat} {cI cZ : ClassId} {tys : List (ClassId × FieldType)} (Cx : xCx sh ad cI cZ tys) (V : xV) (b : Nat) (Bu : xBu sh ad cI cZ b) (n d : Nat) (hn : n < 8) (hd : d < 8) : xMi l yX0_canSpray wsX0_canSpray (rmK 1) D sh ad tys V [.ref (ad b), .int (nI n), .int (nI d)] (b2i (¬ V b 1 = nI n ∧ ¬ V b 1 = nI d ∧ ¬ V (b + 1) n < 2 ∧ ¬ 0 < V (b + 1) d)) V := by
  refine xOfi (cc := cX0_canSpray) (nL := 3) (ret := some .boolean) (own := RX0) (by decide) rfl rfl (Nat.le_of_ble_eq_true rfl) Cx.2.2 ?_
  intro p e s m args below meth c A ls B G hl
  have hx := B.1.1
  have hb := B.1.2.1
  have hin0 : ∀ w ∈ wsX00, w ∈ wsX0_canSpray := by decide +kernel
  have hl : lv_has ls 3 [(0, .ref (ad b)), (1, .int (nI n)), (2, .int (nI d))] := hl
  refine lv_aload_n hx hb dX0_canSpray_0 rfl (lv_at hl 0 rfl) ?_
  refine b_getI B G Bu hin0 1 (by decide) (by decide +kernel) dX0_canSpray_1 ?_
  refine lv_iload_n hx hb dX0_canSpray_4 rfl (lv_at hl 1 rfl) ?_
  refine lv_icmp_eq (tgt := 38) hx hb dX0_canSpray_5 (by decide) (fun c_5 => ?_) (fun c_5 => ?_)
  · skip
    refine lv_iconst (v := 0) hx hb dX0_canSpray_38 (by decide) ?_
    exact x_zret B G (Or.inl rfl) ((b2i_f (fun z => z.1 c_5)).symm) (rfl) dX0_canSpray_39
  · skip
    refine lv_aload_n hx hb dX0_canSpray_8 rfl (lv_at hl 0 rfl) ?_
    refine b_getI B G Bu hin0 1 (by decide) (by decide +kernel) dX0_canSpray_9 ?_
    refine lv_iload_n hx hb dX0_canSpray_12 rfl (lv_at hl 2 rfl) ?_
    refine lv_icmp_eq (tgt := 38) hx hb dX0_canSpray_13 (by decide) (fun c_13 => ?_) (fun c_13 => ?_)
    · skip
      refine lv_iconst (v := 0) hx hb dX0_canSpray_38 (by decide) ?_
      exact x_zret B G (Or.inl rfl) ((b2i_f (fun z => z.2.1 c_13)).symm) (rfl) dX0_canSpray_39
    · skip
      refine lv_aload_n hx hb dX0_canSpray_16 rfl (lv_at hl 0 rfl) ?_
      refine b_getA B G Bu hin0 4 (by decide) (by decide +kernel) dX0_canSpray_17 ?_
      refine lv_iload_n hx hb dX0_canSpray_20 rfl (lv_at hl 1 rfl) ?_
      refine x_ald B G (b + 1) Bu.2.1 0 Cx.1 n (show n < 8 from by omega) rfl (by decide) dX0_canSpray_21 ?_
      refine lv_iconst (v := 2) hx hb dX0_canSpray_22 (by decide) ?_
      refine lv_icmp_lt (tgt := 38) hx hb dX0_canSpray_23 (by decide) (fun c_23 => ?_) (fun c_23 => ?_)
      · skip
        refine lv_iconst (v := 0) hx hb dX0_canSpray_38 (by decide) ?_
        exact x_zret B G (Or.inl rfl) ((b2i_f (fun z => z.2.2.1 c_23)).symm) (rfl) dX0_canSpray_39
      · skip
        refine lv_aload_n hx hb dX0_canSpray_26 rfl (lv_at hl 0 rfl) ?_
        refine lv_iload_n hx hb dX0_canSpray_27 rfl (lv_at hl 2 rfl) ?_
        refine x_callVi (rest := []) B G (c_X0_isAt l Cx V b Bu d (by omega)) (cwV 1 B.1.2.2.2.2 gX0_canSpray_X0_isAt rfl rfl rfl (by decide +kernel) ⟨Nat.le_of_ble_eq_true rfl, Nat.le_of_ble_eq_true rfl⟩) (b_recv B G Bu) rfl hl.1 rfl (Nat.le_of_ble_eq_true rfl) ⟨Nat.zero_le _, Nat.zero_le _⟩ dX0_canSpray_28 (fun H locs G => ?_)
        refine lv_if_ne (tgt := 38) hx hb dX0_canSpray_31 (by decide) (fun c_31 => ?_) (fun c_31 => ?_)
        · skip
          refine lv_iconst (v := 0) hx hb dX0_canSpray_38 (by decide) ?_
          exact x_zret B G (Or.inl rfl) ((b2i_f (fun z => z.2.2.2 (b2i_1 c_31))).symm) (rfl) dX0_canSpray_39
        · skip
          refine lv_iconst (v := 1) hx hb dX0_canSpray_34 (by decide) ?_
          refine lv_goto (tgt := 39) hx hb dX0_canSpray_35 (by decide) ?_
          exact x_zret B G (Or.inr rfl) ((b2i_t ⟨c_5, c_13, c_23, b2i_0.mp c_31⟩).symm) (rfl) dX0_canSpray_39
def bPut (V : xV) (b n : Nat) (c h : Int32) : xV := xu (xu V (b + 1) n c) (b + 2) n h
theorem bPut_o (V : xV) (b n : Nat) (c h : Int32) {i : Nat} (h1 : i ≠ b + 1) (h2 : i ≠ b + 2) : bPut V b n c h i = V i := by unfold bPut; rw [xu_ne _ _ _ h2, xu_ne _ _ _ h1]
set_option maxHeartbeats 4000000 in
set_option maxRecDepth 100000 in
theorem c_X0_put (l : Launch) {D : va_G} {sh : xS} {ad : Nat → Nat} {cI cZ : ClassId} {tys : List (ClassId × FieldType)} (Cx : xCx sh ad cI cZ tys) (V : xV) (b : Nat) (Bu : xBu sh ad cI cZ b) (n : Nat) (x y : Int32) (hn : n < 8) : xMv l yX0_put wsX0_put (rmK 0) D sh ad tys V [.ref (ad b), .int (nI n), .int x, .int y] (bPut V b n x y) := by
  refine xOfv (cc := cX0_put) (nL := 4) (ret := none) (own := RX0) (by decide) rfl rfl (Nat.le_of_ble_eq_true rfl) Cx.2.2 ?_
  intro p e s m args below meth c A ls B G hl
  have hx := B.1.1
  have hb := B.1.2.1
  have hin0 : ∀ w ∈ wsX00, w ∈ wsX0_put := by decide +kernel
  have hl : lv_has ls 4 [(0, .ref (ad b)), (1, .int (nI n)), (2, .int x), (3, .int y)] := hl
  refine lv_aload_n hx hb dX0_put_0 rfl (lv_at hl 0 rfl) ?_
  refine b_getA B G Bu hin0 4 (by decide) (by decide +kernel) dX0_put_1 ?_
  refine lv_iload_n hx hb dX0_put_4 rfl (lv_at hl 1 rfl) ?_
  refine lv_iload_n hx hb dX0_put_5 rfl (lv_at hl 2 rfl) ?_
  refine x_ast B G (b + 1) Bu.2.1 0 Cx.1 n (show n < 8 from by omega) rfl (by decide) dX0_put_6 (fun H locs G => ?_)
  refine lv_aload_n hx hb dX0_put_7 rfl (lv_at hl 0 rfl) ?_
  refine b_getA B G Bu hin0 5 (by decide) (by decide +kernel) dX0_put_8 ?_
  refine lv_iload_n hx hb dX0_put_11 rfl (lv_at hl 1 rfl) ?_
  refine lv_iload_n hx hb dX0_put_12 rfl (lv_at hl 3 rfl) ?_
  refine x_ast B G (b + 2) Bu.2.2.1 0 Cx.1 n (show n < 8 from by omega) rfl (by decide) dX0_put_13 (fun H locs G => ?_)
  exact x_vret B G (rfl) dX0_put_14
set_option maxHeartbeats 4000000 in
set_option maxRecDepth 100000 in
theorem c_X0_leave (l : Launch) {D : va_G} {sh : xS} {ad : Nat → Nat} {cI cZ : ClassId} {tys : List (ClassId × FieldType)} (Cx : xCx sh ad cI cZ tys) (V : xV) (b : Nat) (Bu : xBu sh ad cI cZ b) (n : Nat) (hn : n < 8) : xMv l yX0_leave wsX0_leave (rmK 1) D sh ad tys V [.ref (ad b), .int (nI n)] (bPut V b n 0 0) := by
  refine xOfv (cc := cX0_leave) (nL := 2) (ret := none) (own := RX0) (by decide) rfl rfl (Nat.le_of_ble_eq_true rfl) Cx.2.2 ?_
  intro p e s m args below meth c A ls B G hl
  have hx := B.1.1
  have hb := B.1.2.1
  have hin0 : ∀ w ∈ wsX00, w ∈ wsX0_leave := by decide +kernel
  have hl : lv_has ls 2 [(0, .ref (ad b)), (1, .int (nI n))] := hl
  refine lv_aload_n hx hb dX0_leave_0 rfl (lv_at hl 0 rfl) ?_
  refine lv_iload_n hx hb dX0_leave_1 rfl (lv_at hl 1 rfl) ?_
  refine lv_iconst (v := 0) hx hb dX0_leave_2 (by decide) ?_
  refine lv_iconst (v := 0) hx hb dX0_leave_3 (by decide) ?_
  refine x_callVv (rest := []) B G (c_X0_put l Cx V b Bu n 0 0 (by omega)) (cwV 3 B.1.2.2.2.2 gX0_leave_X0_put rfl rfl rfl (by decide +kernel) ⟨Nat.le_of_ble_eq_true rfl, Nat.le_of_ble_eq_true rfl⟩) (b_recv B G Bu) rfl hl.1 rfl (Nat.le_of_ble_eq_true rfl) ⟨Nat.zero_le _, Nat.zero_le _⟩ dX0_leave_4 (fun H locs G => ?_)
  exact x_vret B G (rfl) dX0_leave_7
def bHalve (V : xV) (b n d : Nat) : xV := bPut (xu V (b + 1) n (V (b + 1) n - V (b + 1) n / 2)) b d (V (b + 1) n / 2) (V (b + 2) n + 1)
set_option maxHeartbeats 4000000 in
set_option maxRecDepth 100000 in
theorem c_X0_halve (l : Launch) {D : va_G} {sh : xS} {ad : Nat → Nat} {cI cZ : ClassId} {tys : List (ClassId × FieldType)} (Cx : xCx sh ad cI cZ tys) (V : xV) (b : Nat) (Bu : xBu sh ad cI cZ b) (n d : Nat) (hn : n < 8) (hd : d < 8) : xMv l yX0_halve wsX0_halve (rmK 1) D sh ad tys V [.ref (ad b), .int (nI n), .int (nI d)] (bHalve V b n d) := by
  refine xOfv (cc := cX0_halve) (nL := 4) (ret := none) (own := RX0) (by decide) rfl rfl (Nat.le_of_ble_eq_true rfl) Cx.2.2 ?_
  intro p e s m args below meth c A ls B G hl
  have hx := B.1.1
  have hb := B.1.2.1
  have hin0 : ∀ w ∈ wsX00, w ∈ wsX0_halve := by decide +kernel
  have hl : lv_has ls 4 [(0, .ref (ad b)), (1, .int (nI n)), (2, .int (nI d))] := hl
  refine lv_aload_n hx hb dX0_halve_0 rfl (lv_at hl 0 rfl) ?_
  refine b_getA B G Bu hin0 4 (by decide) (by decide +kernel) dX0_halve_1 ?_
  refine lv_iload_n hx hb dX0_halve_4 rfl (lv_at hl 1 rfl) ?_
  refine x_ald B G (b + 1) Bu.2.1 0 Cx.1 n (show n < 8 from by omega) rfl (by decide) dX0_halve_5 ?_
  refine lv_iconst (v := 2) hx hb dX0_halve_6 (by decide) ?_
  refine lv_idiv hx hb dX0_halve_7 (by decide) ?_
  refine lv_istore_n (lv' := [(3, .int ((V (b + 1) n) / 2)), (0, .ref (ad b)), (1, .int (nI n)), (2, .int (nI d))]) hx hb dX0_halve_8 rfl hl (by decide) rfl (fun ls hl => ?_)
  refine lv_aload_n hx hb dX0_halve_9 rfl (lv_at hl 1 rfl) ?_
  refine b_getA B G Bu hin0 4 (by decide) (by decide +kernel) dX0_halve_10 ?_
  refine lv_iload_n hx hb dX0_halve_13 rfl (lv_at hl 2 rfl) ?_
  refine lv_dup2_11 hx hb dX0_halve_14 rfl rfl ?_
  refine x_ald B G (b + 1) Bu.2.1 0 Cx.1 n (show n < 8 from by omega) rfl (by decide) dX0_halve_15 ?_
  refine lv_iload_n hx hb dX0_halve_16 rfl (lv_at hl 0 rfl) ?_
  refine lv_isub hx hb dX0_halve_17 ?_
  refine x_ast B G (b + 1) Bu.2.1 0 Cx.1 n (show n < 8 from by omega) rfl (by decide) dX0_halve_18 (fun H locs G => ?_)
  refine lv_aload_n hx hb dX0_halve_19 rfl (lv_at hl 1 rfl) ?_
  refine lv_iload_n hx hb dX0_halve_20 rfl (lv_at hl 3 rfl) ?_
  refine lv_iload_n hx hb dX0_halve_21 rfl (lv_at hl 0 rfl) ?_
  refine lv_aload_n hx hb dX0_halve_22 rfl (lv_at hl 1 rfl) ?_
  refine b_getA B G Bu hin0 5 (by decide) (by decide +kernel) dX0_halve_23 ?_
  refine lv_iload_n hx hb dX0_halve_26 rfl (lv_at hl 2 rfl) ?_
  refine x_ald B G (b + 2) Bu.2.2.1 0 Cx.1 n (show n < 8 from by omega) rfl (by decide) dX0_halve_27 ?_
  refine x_top (show _ = V (b + 2) n from (by rw [xu_ne _ _ _ (by omega)])) ?_
  refine lv_iconst (v := 1) hx hb dX0_halve_28 (by decide) ?_
  refine lv_iadd hx hb dX0_halve_29 ?_
  refine x_callVv (rest := []) B G (c_X0_put l Cx (xu V (b + 1) n ((V (b + 1) n) - ((V (b + 1) n) / 2))) b Bu d ((V (b + 1) n) / 2) ((V (b + 2) n) + 1) (by omega)) (cwV 3 B.1.2.2.2.2 gX0_halve_X0_put rfl rfl rfl (by decide +kernel) ⟨Nat.le_of_ble_eq_true rfl, Nat.le_of_ble_eq_true rfl⟩) (b_recv B G Bu) rfl hl.1 rfl (Nat.le_of_ble_eq_true rfl) ⟨Nat.zero_le _, Nat.zero_le _⟩ dX0_halve_30 (fun H locs G => ?_)
  exact x_vret B G (rfl) dX0_halve_33
def bLearn (V : xV) (b n : Nat) : xV := if V b 7 = nI n then xu (bPut (xu V (b + 3) n 1) b n 0 0) b 7 (-1) else bPut (xu V (b + 3) n 1) b n 0 0
theorem bLearn_o (V : xV) (b n : Nat) {i : Nat} (h0 : i ≠ b) (h1 : i ≠ b + 1) (h2 : i ≠ b + 2) (h3 : i ≠ b + 3) : bLearn V b n i = V i := by
  unfold bLearn
  split
  · rw [xu_ne _ _ _ h0, bPut_o _ _ _ _ _ h1 h2, xu_ne _ _ _ h3]
  · rw [bPut_o _ _ _ _ _ h1 h2, xu_ne _ _ _ h3]
theorem bLearn_f (V : xV) (b n : Nat) {k : Nat} (h : k ≠ 7) : bLearn V b n b k = V b k := by
  unfold bLearn
  split
  · rw [xu_row, if_neg h, bPut_o _ _ _ _ _ (by omega) (by omega), xu_ne _ _ _ (by omega)]
  · rw [bPut_o _ _ _ _ _ (by omega) (by omega), xu_ne _ _ _ (by omega)]
set_option maxHeartbeats 4000000 in
set_option maxRecDepth 100000 in
theorem c_X0_learn (l : Launch) {D : va_G} {sh : xS} {ad : Nat → Nat} {cI cZ : ClassId} {tys : List (ClassId × FieldType)} (Cx : xCx sh ad cI cZ tys) (V : xV) (b : Nat) (Bu : xBu sh ad cI cZ b) (n : Nat) (hn : n < 8) : xMv l yX0_learn wsX0_learn (rmK 2) D sh ad tys V [.ref (ad b), .int (nI n)] (bLearn V b n) := by
  refine xOfv (cc := cX0_learn) (nL := 2) (ret := none) (own := RX0) (by decide) rfl rfl (Nat.le_of_ble_eq_true rfl) Cx.2.2 ?_
  intro p e s m args below meth c A ls B G hl
  have hx := B.1.1
  have hb := B.1.2.1
  have hin0 : ∀ w ∈ wsX00, w ∈ wsX0_learn := by decide +kernel
  have hl : lv_has ls 2 [(0, .ref (ad b)), (1, .int (nI n))] := hl
  refine lv_aload_n hx hb dX0_learn_0 rfl (lv_at hl 0 rfl) ?_
  refine b_getA B G Bu hin0 6 (by decide) (by decide +kernel) dX0_learn_1 ?_
  refine lv_iload_n hx hb dX0_learn_4 rfl (lv_at hl 1 rfl) ?_
  refine lv_iconst (v := 1) hx hb dX0_learn_5 (by decide) ?_
  refine x_zast B G (b + 3) Bu.2.2.2 1 Cx.2.1 n (show n < 8 from by omega) rfl (by decide) (Or.inr rfl) dX0_learn_6 (fun H locs G => ?_)
  refine lv_aload_n hx hb dX0_learn_7 rfl (lv_at hl 0 rfl) ?_
  refine lv_iload_n hx hb dX0_learn_8 rfl (lv_at hl 1 rfl) ?_
  refine x_callVv (rest := []) B G (c_X0_leave l Cx (xu V (b + 3) n 1) b Bu n (by omega)) (cwV 1 B.1.2.2.2.2 gX0_learn_X0_leave rfl rfl rfl (by decide +kernel) ⟨Nat.le_of_ble_eq_true rfl, Nat.le_of_ble_eq_true rfl⟩) (b_recv B G Bu) rfl hl.1 rfl (Nat.le_of_ble_eq_true rfl) ⟨Nat.zero_le _, Nat.zero_le _⟩ dX0_learn_9 (fun H locs G => ?_)
  refine lv_aload_n hx hb dX0_learn_12 rfl (lv_at hl 0 rfl) ?_
  refine b_getI B G Bu hin0 7 (by decide) (by decide +kernel) dX0_learn_13 ?_
  refine x_top (show _ = V b 7 from (by rw [bPut_o _ _ _ _ _ (by omega) (by omega), xu_ne _ _ _ (by omega)])) ?_
  refine lv_iload_n hx hb dX0_learn_16 rfl (lv_at hl 1 rfl) ?_
  refine lv_icmp_ne (tgt := 25) hx hb dX0_learn_17 (by decide) (fun c_17 => ?_) (fun c_17 => ?_)
  · skip
    exact x_vret B G ((if_neg c_17).symm) dX0_learn_25
  · skip
    refine lv_aload_n hx hb dX0_learn_20 rfl (lv_at hl 0 rfl) ?_
    refine lv_iconst (v := (-1)) hx hb dX0_learn_21 (by decide) ?_
    refine b_putI B G Bu hin0 7 (by decide) (by decide +kernel) dX0_learn_22 (fun H locs G => ?_)
    exact x_vret B G ((if_pos c_17).symm) dX0_learn_25
def bDeliver (V : xV) (b n d : Nat) (t : Int32) : xV := bLearn (bLearn (xu (xu V b 8 t) b 9 (V (b + 2) n + 1)) b n) b d
set_option maxHeartbeats 4000000 in
set_option maxRecDepth 100000 in
theorem c_X0_deliver (l : Launch) {D : va_G} {sh : xS} {ad : Nat → Nat} {cI cZ : ClassId} {tys : List (ClassId × FieldType)} (Cx : xCx sh ad cI cZ tys) (V : xV) (b : Nat) (Bu : xBu sh ad cI cZ b) (n d : Nat) (t : Int32) (hn : n < 8) (hd : d < 8) (hd1 : V b 1 = nI d) : xMv l yX0_deliver wsX0_deliver (rmK 3) D sh ad tys V [.ref (ad b), .int (nI n), .int t] (bDeliver V b n d t) := by
  refine xOfv (cc := cX0_deliver) (nL := 3) (ret := none) (own := RX0) (by decide) rfl rfl (Nat.le_of_ble_eq_true rfl) Cx.2.2 ?_
  intro p e s m args below meth c A ls B G hl
  have hx := B.1.1
  have hb := B.1.2.1
  have hin0 : ∀ w ∈ wsX00, w ∈ wsX0_deliver := by decide +kernel
  have hl : lv_has ls 3 [(0, .ref (ad b)), (1, .int (nI n)), (2, .int t)] := hl
  refine lv_aload_n hx hb dX0_deliver_0 rfl (lv_at hl 0 rfl) ?_
  refine lv_iload_n hx hb dX0_deliver_1 rfl (lv_at hl 2 rfl) ?_
  refine b_putI B G Bu hin0 8 (by decide) (by decide +kernel) dX0_deliver_2 (fun H locs G => ?_)
  refine lv_aload_n hx hb dX0_deliver_5 rfl (lv_at hl 0 rfl) ?_
  refine lv_aload_n hx hb dX0_deliver_6 rfl (lv_at hl 0 rfl) ?_
  refine b_getA B G Bu hin0 5 (by decide) (by decide +kernel) dX0_deliver_7 ?_
  refine lv_iload_n hx hb dX0_deliver_10 rfl (lv_at hl 1 rfl) ?_
  refine x_ald B G (b + 2) Bu.2.2.1 0 Cx.1 n (show n < 8 from by omega) rfl (by decide) dX0_deliver_11 ?_
  refine x_top (show _ = V (b + 2) n from (by rw [xu_ne _ _ _ (by omega)])) ?_
  refine lv_iconst (v := 1) hx hb dX0_deliver_12 (by decide) ?_
  refine lv_iadd hx hb dX0_deliver_13 ?_
  refine b_putI B G Bu hin0 9 (by decide) (by decide +kernel) dX0_deliver_14 (fun H locs G => ?_)
  refine lv_aload_n hx hb dX0_deliver_17 rfl (lv_at hl 0 rfl) ?_
  refine lv_iload_n hx hb dX0_deliver_18 rfl (lv_at hl 1 rfl) ?_
  refine x_callVv (rest := []) B G (c_X0_learn l Cx (xu (xu V b 8 t) b 9 ((V (b + 2) n) + 1)) b Bu n (by omega)) (cwV 1 B.1.2.2.2.2 gX0_deliver_X0_learn rfl rfl rfl (by decide +kernel) ⟨Nat.le_of_ble_eq_true rfl, Nat.le_of_ble_eq_true rfl⟩) (b_recv B G Bu) rfl hl.1 rfl (Nat.le_of_ble_eq_true rfl) ⟨Nat.zero_le _, Nat.zero_le _⟩ dX0_deliver_19 (fun H locs G => ?_)
  refine lv_aload_n hx hb dX0_deliver_22 rfl (lv_at hl 0 rfl) ?_
  refine lv_aload_n hx hb dX0_deliver_23 rfl (lv_at hl 0 rfl) ?_
  refine b_getI B G Bu hin0 1 (by decide) (by decide +kernel) dX0_deliver_24 ?_
  refine x_top (show _ = nI d from (by rw [bLearn_f _ _ _ (by decide), xu_row, if_neg (by decide), xu_row, if_neg (by decide)]; exact hd1)) ?_
  refine x_callVv (rest := []) B G (c_X0_learn l Cx (bLearn (xu (xu V b 8 t) b 9 ((V (b + 2) n) + 1)) b n) b Bu d (by omega)) (cwV 1 B.1.2.2.2.2 gX0_deliver_X0_learn rfl rfl rfl (by decide +kernel) ⟨Nat.le_of_ble_eq_true rfl, Nat.le_of_ble_eq_true rfl⟩) (b_recv B G Bu) rfl hl.1 rfl (Nat.le_of_ble_eq_true rfl) ⟨Nat.zero_le _, Nat.zero_le _⟩ dX0_deliver_27 (fun H locs G => ?_)
  exact x_vret B G (rfl) dX0_deliver_30
def bGoneN (V : xV) (b : Nat) : Nat → xV
  | 0 => V
  | n + 1 => bPut (bGoneN V b n) b n 0 0
def bGone (V : xV) (b : Nat) : xV := xu (bGoneN V b 8) b 7 (-1)
theorem bGoneN_o (V : xV) (b n : Nat) {i : Nat} (h1 : i ≠ b + 1) (h2 : i ≠ b + 2) : bGoneN V b n i = V i := by
  induction n with
  | zero => rfl
  | succ n ih => unfold bGoneN; rw [bPut_o _ _ _ _ _ h1 h2, ih]
theorem bGone_o (V : xV) (b : Nat) {i : Nat} (h : i ≠ b) (h1 : i ≠ b + 1) (h2 : i ≠ b + 2) : bGone V b i = V i := by unfold bGone; rw [xu_ne _ _ _ h, bGoneN_o _ _ _ h1 h2]
theorem bGone_f (V : xV) (b : Nat) {k : Nat} (h : k ≠ 7) : bGone V b b k = V b k := by unfold bGone; rw [xu_row, if_neg h, bGoneN_o _ _ _ (by omega) (by omega)]
set_option maxHeartbeats 4000000 in
set_option maxRecDepth 100000 in
theorem c_X0_vanish (l : Launch) {D : va_G} {sh : xS} {ad : Nat → Nat} {cI cZ : ClassId} {tys : List (ClassId × FieldType)} (Cx : xCx sh ad cI cZ tys) (V : xV) (b : Nat) (Bu : xBu sh ad cI cZ b) : xMv l yX0_vanish wsX0_vanish (rmK 2) D sh ad tys V [.ref (ad b)] (bGone V b) := by
  refine xOfv (cc := cX0_vanish) (nL := 2) (ret := none) (own := RX0) (by decide) rfl rfl (Nat.le_of_ble_eq_true rfl) Cx.2.2 ?_
  intro p e s m args below meth c A ls B G hl
  have hx := B.1.1
  have hb := B.1.2.1
  have hin0 : ∀ w ∈ wsX00, w ∈ wsX0_vanish := by decide +kernel
  have hl : lv_has ls 2 [(0, .ref (ad b))] := hl
  refine lv_iconst (v := 0) hx hb dX0_vanish_0 (by decide) ?_
  refine lv_istore_n (lv' := [(1, .int 0), (0, .ref (ad b))]) hx hb dX0_vanish_1 rfl hl (by decide) rfl (fun ls hl => ?_)
  have loop_2 : ∀ (f i : Nat), i ≤ 8 → 8 < i + f → ∀ (H : Heap) (locs : List Loc) (ls : Array Slot), xG D sh ad A s.heap (bGoneN V b i) H locs → lv_has ls 2 [(0, .ref (ad b)), (1, .int (nI i))] → W p l e (rmK 2) s m args below meth c H locs 0 0 (xQv below D sh ad tys A args s (bGone V b)) (F0 m 2 ls []) := by
    intro f
    induction f with
    | zero => intro i h1 h2; exact absurd h2 (by omega)
    | succ f ih_2 =>
      intro i hi hf H locs ls G hl
      refine lv_iload_n hx hb dX0_vanish_2 rfl (lv_at hl 1 rfl) ?_
      refine lv_bipush (v := 8) hx hb dX0_vanish_3 (by decide) ?_
      refine lv_icmp_ge (tgt := 19) hx hb dX0_vanish_5 (by decide) (fun c_5 => ?_) (fun c_5 => ?_)
      · skip
        have c_5 : 8 ≤ i := (nI_leI (a := 8) (b := i) (by omega) (by omega)).mp c_5
        refine lv_aload_n hx hb dX0_vanish_19 rfl (lv_at hl 0 rfl) ?_
        refine lv_iconst (v := (-1)) hx hb dX0_vanish_20 (by decide) ?_
        refine b_putI B G Bu hin0 7 (by decide) (by decide +kernel) dX0_vanish_21 (fun H locs G => ?_)
        exact x_vret B G (by rw [show i = 8 by omega]; rfl) dX0_vanish_24
      · skip
        have c_5 : ¬ (8 ≤ i) := fun h9 => c_5 ((nI_leI (a := 8) (b := i) (by omega) (by omega)).mpr h9)
        refine lv_aload_n hx hb dX0_vanish_8 rfl (lv_at hl 0 rfl) ?_
        refine lv_iload_n hx hb dX0_vanish_9 rfl (lv_at hl 1 rfl) ?_
        refine x_callVv (rest := []) B G (c_X0_leave l Cx (bGoneN V b i) b Bu i (by omega)) (cwV 1 B.1.2.2.2.2 gX0_vanish_X0_leave rfl rfl rfl (by decide +kernel) ⟨Nat.le_of_ble_eq_true rfl, Nat.le_of_ble_eq_true rfl⟩) (b_recv B G Bu) rfl hl.1 rfl (Nat.le_of_ble_eq_true rfl) ⟨Nat.zero_le _, Nat.zero_le _⟩ dX0_vanish_10 (fun H locs G => ?_)
        refine lv_iinc (v := nI (i + 1)) (lv' := [(1, .int (nI (i + 1))), (0, .ref (ad b))]) hx hb dX0_vanish_13 hl (k := 1) rfl (nI_add i 1) (by decide) rfl (fun ls hl => ?_)
        refine lv_goto (tgt := 2) hx hb dX0_vanish_16 (by decide) ?_
        have hl := lv_sub (l' := [(0, .ref (ad b)), (1, .int (nI (i + 1)))]) hl [1, 0] rfl
        have eV : bPut (bGoneN V b i) b i 0 0 = bGoneN V b (i + 1) := rfl
        rw [eV] at G
        exact ih_2 (i + 1) (by omega) (by omega) _ _ _ G hl
  have hl := lv_sub (l' := [(0, .ref (ad b)), (1, .int 0)]) hl [1, 0] rfl
  have hl := lv_cast hl (congrArg (fun z : Int32 => ([(0, .ref (ad b)), (1, .int z)] : List (Nat × Value))) (show 0 = nI 0 from rfl))
  have eV : V = bGoneN V b 0 := rfl
  rw [eV] at G
  exact loop_2 (8 + 1) 0 (by omega) (by omega) _ _ _ G hl
/-- the order of bundles, by the class's objects -/
def bBef (V : xV) (b c : Nat) : Bool := if V b 2 = V c 2 then (if V b 3 = V c 3 then decide (¬ V c 0 ≤ V b 0) else decide (¬ V c 3 ≤ V b 3)) else decide (¬ V b 2 ≤ V c 2)
set_option maxHeartbeats 4000000 in
set_option maxRecDepth 100000 in
theorem c_X0_isBefore (l : Launch) {D : va_G} {sh : xS} {ad : Nat → Nat} {cI cZ : ClassId} {tys : List (ClassId × FieldType)} (Cx : xCx sh ad cI cZ tys) (V : xV) (b : Nat) (Bu : xBu sh ad cI cZ b) (o : Nat) (Bo : xBu sh ad cI cZ o) : xMi l yX0_isBefore wsX0_isBefore (rmK 0) D sh ad tys V [.ref (ad b), .ref (ad o)] (b2i (bBef V b o = true)) V := by
  refine xOfi (cc := cX0_isBefore) (nL := 2) (ret := some .boolean) (own := RX0) (by decide) rfl rfl (Nat.le_of_ble_eq_true rfl) Cx.2.2 ?_
  intro p e s m args below meth c A ls B G hl
  have hx := B.1.1
  have hb := B.1.2.1
  have hin0 : ∀ w ∈ wsX00, w ∈ wsX0_isBefore := by decide +kernel
  have hl : lv_has ls 2 [(0, .ref (ad b)), (1, .ref (ad o))] := hl
  refine lv_aload_n hx hb dX0_isBefore_0 rfl (lv_at hl 0 rfl) ?_
  refine b_getI B G Bu hin0 2 (by decide) (by decide +kernel) dX0_isBefore_1 ?_
  refine lv_aload_n hx hb dX0_isBefore_4 rfl (lv_at hl 1 rfl) ?_
  refine b_getI B G Bo hin0 2 (by decide) (by decide +kernel) dX0_isBefore_5 ?_
  refine lv_icmp_eq (tgt := 28) hx hb dX0_isBefore_8 (by decide) (fun c_8 => ?_) (fun c_8 => ?_)
  · skip
    refine lv_aload_n hx hb dX0_isBefore_28 rfl (lv_at hl 0 rfl) ?_
    refine b_getI B G Bu hin0 3 (by decide) (by decide +kernel) dX0_isBefore_29 ?_
    refine lv_aload_n hx hb dX0_isBefore_32 rfl (lv_at hl 1 rfl) ?_
    refine b_getI B G Bo hin0 3 (by decide) (by decide +kernel) dX0_isBefore_33 ?_
    refine lv_icmp_eq (tgt := 56) hx hb dX0_isBefore_36 (by decide) (fun c_36 => ?_) (fun c_36 => ?_)
    · skip
      refine lv_aload_n hx hb dX0_isBefore_56 rfl (lv_at hl 0 rfl) ?_
      refine b_getI B G Bu hin0 0 (by decide) (by decide +kernel) dX0_isBefore_57 ?_
      refine lv_aload_n hx hb dX0_isBefore_60 rfl (lv_at hl 1 rfl) ?_
      refine b_getI B G Bo hin0 0 (by decide) (by decide +kernel) dX0_isBefore_61 ?_
      refine lv_icmp_ge (tgt := 71) hx hb dX0_isBefore_64 (by decide) (fun c_64 => ?_) (fun c_64 => ?_)
      · skip
        refine lv_iconst (v := 0) hx hb dX0_isBefore_71 (by decide) ?_
        exact x_zret B G (Or.inl rfl) ((b2i_f (by unfold bBef; rw [if_pos c_8, if_pos c_36]; rw [decide_eq_true_eq]; exact fun z => z c_64)).symm) (rfl) dX0_isBefore_72
      · skip
        refine lv_iconst (v := 1) hx hb dX0_isBefore_67 (by decide) ?_
        refine lv_goto (tgt := 72) hx hb dX0_isBefore_68 (by decide) ?_
        exact x_zret B G (Or.inr rfl) ((b2i_t (by unfold bBef; rw [if_pos c_8, if_pos c_36]; exact decide_eq_true c_64)).symm) (rfl) dX0_isBefore_72
    · skip
      refine lv_aload_n hx hb dX0_isBefore_39 rfl (lv_at hl 0 rfl) ?_
      refine b_getI B G Bu hin0 3 (by decide) (by decide +kernel) dX0_isBefore_40 ?_
      refine lv_aload_n hx hb dX0_isBefore_43 rfl (lv_at hl 1 rfl) ?_
      refine b_getI B G Bo hin0 3 (by decide) (by decide +kernel) dX0_isBefore_44 ?_
      refine lv_icmp_ge (tgt := 54) hx hb dX0_isBefore_47 (by decide) (fun c_47 => ?_) (fun c_47 => ?_)
      · skip
        refine lv_iconst (v := 0) hx hb dX0_isBefore_54 (by decide) ?_
        exact x_zret B G (Or.inl rfl) ((b2i_f (by unfold bBef; rw [if_pos c_8, if_neg c_36]; rw [decide_eq_true_eq]; exact fun z => z c_47)).symm) (rfl) dX0_isBefore_55
      · skip
        refine lv_iconst (v := 1) hx hb dX0_isBefore_50 (by decide) ?_
        refine lv_goto (tgt := 55) hx hb dX0_isBefore_51 (by decide) ?_
        exact x_zret B G (Or.inr rfl) ((b2i_t (by unfold bBef; rw [if_pos c_8, if_neg c_36]; exact decide_eq_true c_47)).symm) (rfl) dX0_isBefore_55
  · skip
    refine lv_aload_n hx hb dX0_isBefore_11 rfl (lv_at hl 0 rfl) ?_
    refine b_getI B G Bu hin0 2 (by decide) (by decide +kernel) dX0_isBefore_12 ?_
    refine lv_aload_n hx hb dX0_isBefore_15 rfl (lv_at hl 1 rfl) ?_
    refine b_getI B G Bo hin0 2 (by decide) (by decide +kernel) dX0_isBefore_16 ?_
    refine lv_icmp_le (tgt := 26) hx hb dX0_isBefore_19 (by decide) (fun c_19 => ?_) (fun c_19 => ?_)
    · skip
      refine lv_iconst (v := 0) hx hb dX0_isBefore_26 (by decide) ?_
      exact x_zret B G (Or.inl rfl) ((b2i_f (by unfold bBef; rw [if_neg c_8]; rw [decide_eq_true_eq]; exact fun z => z c_19)).symm) (rfl) dX0_isBefore_27
    · skip
      refine lv_iconst (v := 1) hx hb dX0_isBefore_22 (by decide) ?_
      refine lv_goto (tgt := 27) hx hb dX0_isBefore_23 (by decide) ?_
      exact x_zret B G (Or.inr rfl) ((b2i_t (by unfold bBef; rw [if_neg c_8]; exact decide_eq_true c_19)).symm) (rfl) dX0_isBefore_27
