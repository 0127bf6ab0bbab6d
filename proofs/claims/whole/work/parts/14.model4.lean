theorem b2i_1 {P : Prop} [Decidable P] (h : ¬ b2i P = 0) : P := Decidable.byContradiction (fun c => h (b2i_0.mpr c))
theorem nodeOK {n : Nat} (h : n < 8) : 0 ≤ nI n ∧ nI n ≤ 7 := ⟨nI_pos' (by omega), nI_le (show n ≤ 7 by omega) (by decide)⟩
set_option maxHeartbeats 4000000 in
set_option maxRecDepth 100000 in
theorem c_X3_clock (l : Launch) {D : va_G} {sh : xS} {ad : Nat → Nat} {cI : ClassId} {tys : List (ClassId × FieldType)} (M : xMm sh ad cI tys) (V : xV) : xMi l yX3_clock wsX3_clock (rmK 1) D sh ad tys V [.ref (ad 17)] (V 17 19) (xu V 17 20 0) := by
  refine xOfi (cc := cX3_clock) (nL := 1) (ret := some .int) (own := RX3) (by decide) rfl rfl (Nat.le_of_ble_eq_true rfl) M.2.2 ?_
  intro p e s m args below meth c A ls B G hl
  have hx := B.1.1
  have hb := B.1.2.1
  have hin : ∀ w ∈ wsX30, w ∈ wsX3_clock := by decide +kernel
  have hl : lv_has ls 1 [(0, .ref (ad 17))] := hl
  refine lv_aload_n hx hb dX3_clock_0 rfl (lv_at hl 0 rfl) ?_
  refine lv_aload_n hx hb dX3_clock_1 rfl (lv_at hl 0 rfl) ?_
  refine m_getI B G M hin 19 (by decide) (by decide +kernel) dX3_clock_2 ?_
  refine x_callVi (rest := []) B G (c_X3_plain l M V (V 17 19)) (cwV 1 B.1.2.2.2.2 gX3_clock_X3_plain rfl rfl rfl (by decide +kernel) ⟨Nat.le_of_ble_eq_true rfl, Nat.le_of_ble_eq_true rfl⟩) (m_recv B G M) rfl hl.1 rfl (Nat.le_of_ble_eq_true rfl) ⟨Nat.zero_le _, Nat.zero_le _⟩ dX3_clock_5 (fun H locs G => ?_)
  exact x_iret B G (rfl) (rfl) dX3_clock_8
set_option maxHeartbeats 4000000 in
set_option maxRecDepth 100000 in
theorem c_X3_bundles (l : Launch) {D : va_G} {sh : xS} {ad : Nat → Nat} {cI : ClassId} {tys : List (ClassId × FieldType)} (M : xMm sh ad cI tys) (V : xV) : xMi l yX3_bundles wsX3_bundles (rmK 1) D sh ad tys V [.ref (ad 17)] (V 17 17) (xu V 17 20 0) := by
  refine xOfi (cc := cX3_bundles) (nL := 1) (ret := some .int) (own := RX3) (by decide) rfl rfl (Nat.le_of_ble_eq_true rfl) M.2.2 ?_
  intro p e s m args below meth c A ls B G hl
  have hx := B.1.1
  have hb := B.1.2.1
  have hin : ∀ w ∈ wsX30, w ∈ wsX3_bundles := by decide +kernel
  have hl : lv_has ls 1 [(0, .ref (ad 17))] := hl
  refine lv_aload_n hx hb dX3_bundles_0 rfl (lv_at hl 0 rfl) ?_
  refine lv_aload_n hx hb dX3_bundles_1 rfl (lv_at hl 0 rfl) ?_
  refine m_getI B G M hin 17 (by decide) (by decide +kernel) dX3_bundles_2 ?_
  refine x_callVi (rest := []) B G (c_X3_plain l M V (V 17 17)) (cwV 1 B.1.2.2.2.2 gX3_bundles_X3_plain rfl rfl rfl (by decide +kernel) ⟨Nat.le_of_ble_eq_true rfl, Nat.le_of_ble_eq_true rfl⟩) (m_recv B G M) rfl hl.1 rfl (Nat.le_of_ble_eq_true rfl) ⟨Nat.zero_le _, Nat.zero_le _⟩ dX3_bundles_5 (fun H locs G => ?_)
  exact x_iret B G (rfl) (rfl) dX3_bundles_8
set_option maxHeartbeats 4000000 in
set_option maxRecDepth 100000 in
theorem c_X3_endOf_ok (l : Launch) {D : va_G} {sh : xS} {ad : Nat → Nat} {cI : ClassId} {tys : List (ClassId × FieldType)} (M : xMm sh ad cI tys) (V : xV) (k : Nat) (hk : k < 40) (hk1 : 0 ≤ nI k ∧ nI k ≤ V 17 17 - 1) : xMi l yX3_endOf wsX3_endOf (rmK 2) D sh ad tys V [.ref (ad 17), .int (nI k)] (V 2 k) (xu V 17 20 0) := by
  refine xOfi (cc := cX3_endOf) (nL := 2) (ret := some .int) (own := RX3) (by decide) rfl rfl (Nat.le_of_ble_eq_true rfl) M.2.2 ?_
  intro p e s m args below meth c A ls B G hl
  have hx := B.1.1
  have hb := B.1.2.1
  have hin : ∀ w ∈ wsX30, w ∈ wsX3_endOf := by decide +kernel
  have hl : lv_has ls 2 [(0, .ref (ad 17)), (1, .int (nI k))] := hl
  refine lv_aload_n hx hb dX3_endOf_0 rfl (lv_at hl 0 rfl) ?_
  refine lv_aload_n hx hb dX3_endOf_1 rfl (lv_at hl 0 rfl) ?_
  refine lv_iload_n hx hb dX3_endOf_2 rfl (lv_at hl 1 rfl) ?_
  refine x_callVi (rest := [.ref (ad 17)]) B G (c_X3_isBundle l M V (nI k)) (cwV 1 B.1.2.2.2.2 gX3_endOf_X3_isBundle rfl rfl rfl (by decide +kernel) ⟨Nat.le_of_ble_eq_true rfl, Nat.le_of_ble_eq_true rfl⟩) (m_recv B G M) rfl hl.1 rfl (Nat.le_of_ble_eq_true rfl) ⟨Nat.zero_le _, Nat.zero_le _⟩ dX3_endOf_3 (fun H locs G => ?_)
  refine lv_if_eq (tgt := 13) hx hb dX3_endOf_6 (by decide) (fun c_6 => ?_) (fun c_6 => ?_)
  · exact False.elim (b2i_0.mp c_6 (hk1))
  · skip
    refine lv_iconst (v := 0) hx hb dX3_endOf_9 (by decide) ?_
    refine lv_goto (tgt := 14) hx hb dX3_endOf_10 (by decide) ?_
    refine x_callVi (rest := []) B G (c_X3_holds l M V 0) (cwV 1 B.1.2.2.2.2 gX3_endOf_X3_holds rfl rfl rfl (by decide +kernel) ⟨Nat.le_of_ble_eq_true rfl, Nat.le_of_ble_eq_true rfl⟩) (m_recv B G M) rfl hl.1 rfl (Nat.le_of_ble_eq_true rfl) ⟨Nat.zero_le _, Nat.zero_le _⟩ dX3_endOf_14 (fun H locs G => ?_)
    refine lv_if_eq (tgt := 24) hx hb dX3_endOf_17 (by decide) (fun c_17 => ?_) (fun c_17 => ?_)
    · skip
      refine lv_aload_n hx hb dX3_endOf_24 rfl (lv_at hl 0 rfl) ?_
      refine m_getA B G M hin 2 (by decide) (by decide +kernel) dX3_endOf_25 ?_
      refine lv_iload_n hx hb dX3_endOf_28 rfl (lv_at hl 1 rfl) ?_
      refine m_ald B G M 2 (by decide) k (show k < 40 by omega) rfl dX3_endOf_29 ?_
      exact x_iret B G (rfl) (rfl) dX3_endOf_30
    · exact False.elim (c_17 (by decide))
set_option maxHeartbeats 4000000 in
set_option maxRecDepth 100000 in
theorem c_X3_endOf_bad (l : Launch) {D : va_G} {sh : xS} {ad : Nat → Nat} {cI : ClassId} {tys : List (ClassId × FieldType)} (M : xMm sh ad cI tys) (V : xV) (x : Int32) (h : ¬ (0 ≤ x ∧ x ≤ V 17 17 - 1)) : xMi l yX3_endOf wsX3_endOf (rmK 2) D sh ad tys V [.ref (ad 17), .int x] (-1) (xu V 17 20 1) := by
  refine xOfi (cc := cX3_endOf) (nL := 2) (ret := some .int) (own := RX3) (by decide) rfl rfl (Nat.le_of_ble_eq_true rfl) M.2.2 ?_
  intro p e s m args below meth c A ls B G hl
  have hx := B.1.1
  have hb := B.1.2.1
  have hin : ∀ w ∈ wsX30, w ∈ wsX3_endOf := by decide +kernel
  have hl : lv_has ls 2 [(0, .ref (ad 17)), (1, .int x)] := hl
  refine lv_aload_n hx hb dX3_endOf_0 rfl (lv_at hl 0 rfl) ?_
  refine lv_aload_n hx hb dX3_endOf_1 rfl (lv_at hl 0 rfl) ?_
  refine lv_iload_n hx hb dX3_endOf_2 rfl (lv_at hl 1 rfl) ?_
  refine x_callVi (rest := [.ref (ad 17)]) B G (c_X3_isBundle l M V x) (cwV 1 B.1.2.2.2.2 gX3_endOf_X3_isBundle rfl rfl rfl (by decide +kernel) ⟨Nat.le_of_ble_eq_true rfl, Nat.le_of_ble_eq_true rfl⟩) (m_recv B G M) rfl hl.1 rfl (Nat.le_of_ble_eq_true rfl) ⟨Nat.zero_le _, Nat.zero_le _⟩ dX3_endOf_3 (fun H locs G => ?_)
  refine lv_if_eq (tgt := 13) hx hb dX3_endOf_6 (by decide) (fun c_6 => ?_) (fun c_6 => ?_)
  · skip
    refine lv_iconst (v := 1) hx hb dX3_endOf_13 (by decide) ?_
    refine x_callVi (rest := []) B G (c_X3_holds l M V 1) (cwV 1 B.1.2.2.2.2 gX3_endOf_X3_holds rfl rfl rfl (by decide +kernel) ⟨Nat.le_of_ble_eq_true rfl, Nat.le_of_ble_eq_true rfl⟩) (m_recv B G M) rfl hl.1 rfl (Nat.le_of_ble_eq_true rfl) ⟨Nat.zero_le _, Nat.zero_le _⟩ dX3_endOf_14 (fun H locs G => ?_)
    refine lv_if_eq (tgt := 24) hx hb dX3_endOf_17 (by decide) (fun c_17 => ?_) (fun c_17 => ?_)
    · exact False.elim (absurd c_17 (by decide))
    · skip
      refine lv_iconst (v := (-1)) hx hb dX3_endOf_20 (by decide) ?_
      refine lv_goto (tgt := 30) hx hb dX3_endOf_21 (by decide) ?_
      exact x_iret B G (rfl) (rfl) dX3_endOf_30
  · exact False.elim (c_6 (b2i_f (h)))
set_option maxHeartbeats 4000000 in
set_option maxRecDepth 100000 in
theorem c_X3_deliveredAt_ok (l : Launch) {D : va_G} {sh : xS} {ad : Nat → Nat} {cI : ClassId} {tys : List (ClassId × FieldType)} (M : xMm sh ad cI tys) (V : xV) (k : Nat) (hk : k < 40) (hk1 : 0 ≤ nI k ∧ nI k ≤ V 17 17 - 1) : xMi l yX3_deliveredAt wsX3_deliveredAt (rmK 2) D sh ad tys V [.ref (ad 17), .int (nI k)] (V 4 k) (xu V 17 20 0) := by
  refine xOfi (cc := cX3_deliveredAt) (nL := 2) (ret := some .int) (own := RX3) (by decide) rfl rfl (Nat.le_of_ble_eq_true rfl) M.2.2 ?_
  intro p e s m args below meth c A ls B G hl
  have hx := B.1.1
  have hb := B.1.2.1
  have hin : ∀ w ∈ wsX30, w ∈ wsX3_deliveredAt := by decide +kernel
  have hl : lv_has ls 2 [(0, .ref (ad 17)), (1, .int (nI k))] := hl
  refine lv_aload_n hx hb dX3_deliveredAt_0 rfl (lv_at hl 0 rfl) ?_
  refine lv_aload_n hx hb dX3_deliveredAt_1 rfl (lv_at hl 0 rfl) ?_
  refine lv_iload_n hx hb dX3_deliveredAt_2 rfl (lv_at hl 1 rfl) ?_
  refine x_callVi (rest := [.ref (ad 17)]) B G (c_X3_isBundle l M V (nI k)) (cwV 1 B.1.2.2.2.2 gX3_deliveredAt_X3_isBundle rfl rfl rfl (by decide +kernel) ⟨Nat.le_of_ble_eq_true rfl, Nat.le_of_ble_eq_true rfl⟩) (m_recv B G M) rfl hl.1 rfl (Nat.le_of_ble_eq_true rfl) ⟨Nat.zero_le _, Nat.zero_le _⟩ dX3_deliveredAt_3 (fun H locs G => ?_)
  refine lv_if_eq (tgt := 13) hx hb dX3_deliveredAt_6 (by decide) (fun c_6 => ?_) (fun c_6 => ?_)
  · exact False.elim (b2i_0.mp c_6 (hk1))
  · skip
    refine lv_iconst (v := 0) hx hb dX3_deliveredAt_9 (by decide) ?_
    refine lv_goto (tgt := 14) hx hb dX3_deliveredAt_10 (by decide) ?_
    refine x_callVi (rest := []) B G (c_X3_holds l M V 0) (cwV 1 B.1.2.2.2.2 gX3_deliveredAt_X3_holds rfl rfl rfl (by decide +kernel) ⟨Nat.le_of_ble_eq_true rfl, Nat.le_of_ble_eq_true rfl⟩) (m_recv B G M) rfl hl.1 rfl (Nat.le_of_ble_eq_true rfl) ⟨Nat.zero_le _, Nat.zero_le _⟩ dX3_deliveredAt_14 (fun H locs G => ?_)
    refine lv_if_eq (tgt := 24) hx hb dX3_deliveredAt_17 (by decide) (fun c_17 => ?_) (fun c_17 => ?_)
    · skip
      refine lv_aload_n hx hb dX3_deliveredAt_24 rfl (lv_at hl 0 rfl) ?_
      refine m_getA B G M hin 4 (by decide) (by decide +kernel) dX3_deliveredAt_25 ?_
      refine lv_iload_n hx hb dX3_deliveredAt_28 rfl (lv_at hl 1 rfl) ?_
      refine m_ald B G M 4 (by decide) k (show k < 40 by omega) rfl dX3_deliveredAt_29 ?_
      exact x_iret B G (rfl) (rfl) dX3_deliveredAt_30
    · exact False.elim (c_17 (by decide))
set_option maxHeartbeats 4000000 in
set_option maxRecDepth 100000 in
theorem c_X3_deliveredAt_bad (l : Launch) {D : va_G} {sh : xS} {ad : Nat → Nat} {cI : ClassId} {tys : List (ClassId × FieldType)} (M : xMm sh ad cI tys) (V : xV) (x : Int32) (h : ¬ (0 ≤ x ∧ x ≤ V 17 17 - 1)) : xMi l yX3_deliveredAt wsX3_deliveredAt (rmK 2) D sh ad tys V [.ref (ad 17), .int x] (-1) (xu V 17 20 1) := by
  refine xOfi (cc := cX3_deliveredAt) (nL := 2) (ret := some .int) (own := RX3) (by decide) rfl rfl (Nat.le_of_ble_eq_true rfl) M.2.2 ?_
  intro p e s m args below meth c A ls B G hl
  have hx := B.1.1
  have hb := B.1.2.1
  have hin : ∀ w ∈ wsX30, w ∈ wsX3_deliveredAt := by decide +kernel
  have hl : lv_has ls 2 [(0, .ref (ad 17)), (1, .int x)] := hl
  refine lv_aload_n hx hb dX3_deliveredAt_0 rfl (lv_at hl 0 rfl) ?_
  refine lv_aload_n hx hb dX3_deliveredAt_1 rfl (lv_at hl 0 rfl) ?_
  refine lv_iload_n hx hb dX3_deliveredAt_2 rfl (lv_at hl 1 rfl) ?_
  refine x_callVi (rest := [.ref (ad 17)]) B G (c_X3_isBundle l M V x) (cwV 1 B.1.2.2.2.2 gX3_deliveredAt_X3_isBundle rfl rfl rfl (by decide +kernel) ⟨Nat.le_of_ble_eq_true rfl, Nat.le_of_ble_eq_true rfl⟩) (m_recv B G M) rfl hl.1 rfl (Nat.le_of_ble_eq_true rfl) ⟨Nat.zero_le _, Nat.zero_le _⟩ dX3_deliveredAt_3 (fun H locs G => ?_)
  refine lv_if_eq (tgt := 13) hx hb dX3_deliveredAt_6 (by decide) (fun c_6 => ?_) (fun c_6 => ?_)
  · skip
    refine lv_iconst (v := 1) hx hb dX3_deliveredAt_13 (by decide) ?_
    refine x_callVi (rest := []) B G (c_X3_holds l M V 1) (cwV 1 B.1.2.2.2.2 gX3_deliveredAt_X3_holds rfl rfl rfl (by decide +kernel) ⟨Nat.le_of_ble_eq_true rfl, Nat.le_of_ble_eq_true rfl⟩) (m_recv B G M) rfl hl.1 rfl (Nat.le_of_ble_eq_true rfl) ⟨Nat.zero_le _, Nat.zero_le _⟩ dX3_deliveredAt_14 (fun H locs G => ?_)
    refine lv_if_eq (tgt := 24) hx hb dX3_deliveredAt_17 (by decide) (fun c_17 => ?_) (fun c_17 => ?_)
    · exact False.elim (absurd c_17 (by decide))
    · skip
      refine lv_iconst (v := (-1)) hx hb dX3_deliveredAt_20 (by decide) ?_
      refine lv_goto (tgt := 30) hx hb dX3_deliveredAt_21 (by decide) ?_
      exact x_iret B G (rfl) (rfl) dX3_deliveredAt_30
  · exact False.elim (c_6 (b2i_f (h)))
set_option maxHeartbeats 4000000 in
set_option maxRecDepth 100000 in
theorem c_X3_hops_ok (l : Launch) {D : va_G} {sh : xS} {ad : Nat → Nat} {cI : ClassId} {tys : List (ClassId × FieldType)} (M : xMm sh ad cI tys) (V : xV) (k : Nat) (hk : k < 40) (hk1 : 0 ≤ nI k ∧ nI k ≤ V 17 17 - 1) : xMi l yX3_hops wsX3_hops (rmK 2) D sh ad tys V [.ref (ad 17), .int (nI k)] (V 5 k) (xu V 17 20 0) := by
  refine xOfi (cc := cX3_hops) (nL := 2) (ret := some .int) (own := RX3) (by decide) rfl rfl (Nat.le_of_ble_eq_true rfl) M.2.2 ?_
  intro p e s m args below meth c A ls B G hl
  have hx := B.1.1
  have hb := B.1.2.1
  have hin : ∀ w ∈ wsX30, w ∈ wsX3_hops := by decide +kernel
  have hl : lv_has ls 2 [(0, .ref (ad 17)), (1, .int (nI k))] := hl
  refine lv_aload_n hx hb dX3_hops_0 rfl (lv_at hl 0 rfl) ?_
  refine lv_aload_n hx hb dX3_hops_1 rfl (lv_at hl 0 rfl) ?_
  refine lv_iload_n hx hb dX3_hops_2 rfl (lv_at hl 1 rfl) ?_
  refine x_callVi (rest := [.ref (ad 17)]) B G (c_X3_isBundle l M V (nI k)) (cwV 1 B.1.2.2.2.2 gX3_hops_X3_isBundle rfl rfl rfl (by decide +kernel) ⟨Nat.le_of_ble_eq_true rfl, Nat.le_of_ble_eq_true rfl⟩) (m_recv B G M) rfl hl.1 rfl (Nat.le_of_ble_eq_true rfl) ⟨Nat.zero_le _, Nat.zero_le _⟩ dX3_hops_3 (fun H locs G => ?_)
  refine lv_if_eq (tgt := 13) hx hb dX3_hops_6 (by decide) (fun c_6 => ?_) (fun c_6 => ?_)
  · exact False.elim (b2i_0.mp c_6 (hk1))
  · skip
    refine lv_iconst (v := 0) hx hb dX3_hops_9 (by decide) ?_
    refine lv_goto (tgt := 14) hx hb dX3_hops_10 (by decide) ?_
    refine x_callVi (rest := []) B G (c_X3_holds l M V 0) (cwV 1 B.1.2.2.2.2 gX3_hops_X3_holds rfl rfl rfl (by decide +kernel) ⟨Nat.le_of_ble_eq_true rfl, Nat.le_of_ble_eq_true rfl⟩) (m_recv B G M) rfl hl.1 rfl (Nat.le_of_ble_eq_true rfl) ⟨Nat.zero_le _, Nat.zero_le _⟩ dX3_hops_14 (fun H locs G => ?_)
    refine lv_if_eq (tgt := 24) hx hb dX3_hops_17 (by decide) (fun c_17 => ?_) (fun c_17 => ?_)
    · skip
      refine lv_aload_n hx hb dX3_hops_24 rfl (lv_at hl 0 rfl) ?_
      refine m_getA B G M hin 5 (by decide) (by decide +kernel) dX3_hops_25 ?_
      refine lv_iload_n hx hb dX3_hops_28 rfl (lv_at hl 1 rfl) ?_
      refine m_ald B G M 5 (by decide) k (show k < 40 by omega) rfl dX3_hops_29 ?_
      exact x_iret B G (rfl) (rfl) dX3_hops_30
    · exact False.elim (c_17 (by decide))
set_option maxHeartbeats 4000000 in
set_option maxRecDepth 100000 in
theorem c_X3_hops_bad (l : Launch) {D : va_G} {sh : xS} {ad : Nat → Nat} {cI : ClassId} {tys : List (ClassId × FieldType)} (M : xMm sh ad cI tys) (V : xV) (x : Int32) (h : ¬ (0 ≤ x ∧ x ≤ V 17 17 - 1)) : xMi l yX3_hops wsX3_hops (rmK 2) D sh ad tys V [.ref (ad 17), .int x] (-1) (xu V 17 20 1) := by
  refine xOfi (cc := cX3_hops) (nL := 2) (ret := some .int) (own := RX3) (by decide) rfl rfl (Nat.le_of_ble_eq_true rfl) M.2.2 ?_
  intro p e s m args below meth c A ls B G hl
  have hx := B.1.1
  have hb := B.1.2.1
  have hin : ∀ w ∈ wsX30, w ∈ wsX3_hops := by decide +kernel
  have hl : lv_has ls 2 [(0, .ref (ad 17)), (1, .int x)] := hl
  refine lv_aload_n hx hb dX3_hops_0 rfl (lv_at hl 0 rfl) ?_
  refine lv_aload_n hx hb dX3_hops_1 rfl (lv_at hl 0 rfl) ?_
  refine lv_iload_n hx hb dX3_hops_2 rfl (lv_at hl 1 rfl) ?_
  refine x_callVi (rest := [.ref (ad 17)]) B G (c_X3_isBundle l M V x) (cwV 1 B.1.2.2.2.2 gX3_hops_X3_isBundle rfl rfl rfl (by decide +kernel) ⟨Nat.le_of_ble_eq_true rfl, Nat.le_of_ble_eq_true rfl⟩) (m_recv B G M) rfl hl.1 rfl (Nat.le_of_ble_eq_true rfl) ⟨Nat.zero_le _, Nat.zero_le _⟩ dX3_hops_3 (fun H locs G => ?_)
  refine lv_if_eq (tgt := 13) hx hb dX3_hops_6 (by decide) (fun c_6 => ?_) (fun c_6 => ?_)
  · skip
    refine lv_iconst (v := 1) hx hb dX3_hops_13 (by decide) ?_
    refine x_callVi (rest := []) B G (c_X3_holds l M V 1) (cwV 1 B.1.2.2.2.2 gX3_hops_X3_holds rfl rfl rfl (by decide +kernel) ⟨Nat.le_of_ble_eq_true rfl, Nat.le_of_ble_eq_true rfl⟩) (m_recv B G M) rfl hl.1 rfl (Nat.le_of_ble_eq_true rfl) ⟨Nat.zero_le _, Nat.zero_le _⟩ dX3_hops_14 (fun H locs G => ?_)
    refine lv_if_eq (tgt := 24) hx hb dX3_hops_17 (by decide) (fun c_17 => ?_) (fun c_17 => ?_)
    · exact False.elim (absurd c_17 (by decide))
    · skip
      refine lv_iconst (v := (-1)) hx hb dX3_hops_20 (by decide) ?_
      refine lv_goto (tgt := 30) hx hb dX3_hops_21 (by decide) ?_
      exact x_iret B G (rfl) (rfl) dX3_hops_30
  · exact False.elim (c_6 (b2i_f (h)))
set_option maxHeartbeats 4000000 in
set_option maxRecDepth 100000 in
theorem c_X3_custodian_ok (l : Launch) {D : va_G} {sh : xS} {ad : Nat → Nat} {cI : ClassId} {tys : List (ClassId × FieldType)} (M : xMm sh ad cI tys) (V : xV) (k : Nat) (hk : k < 40) (hk1 : 0 ≤ nI k ∧ nI k ≤ V 17 17 - 1) : xMi l yX3_custodian wsX3_custodian (rmK 2) D sh ad tys V [.ref (ad 17), .int (nI k)] (V 3 k) (xu V 17 20 0) := by
  refine xOfi (cc := cX3_custodian) (nL := 2) (ret := some .int) (own := RX3) (by decide) rfl rfl (Nat.le_of_ble_eq_true rfl) M.2.2 ?_
  intro p e s m args below meth c A ls B G hl
  have hx := B.1.1
  have hb := B.1.2.1
  have hin : ∀ w ∈ wsX30, w ∈ wsX3_custodian := by decide +kernel
  have hl : lv_has ls 2 [(0, .ref (ad 17)), (1, .int (nI k))] := hl
  refine lv_aload_n hx hb dX3_custodian_0 rfl (lv_at hl 0 rfl) ?_
  refine lv_aload_n hx hb dX3_custodian_1 rfl (lv_at hl 0 rfl) ?_
  refine lv_iload_n hx hb dX3_custodian_2 rfl (lv_at hl 1 rfl) ?_
  refine x_callVi (rest := [.ref (ad 17)]) B G (c_X3_isBundle l M V (nI k)) (cwV 1 B.1.2.2.2.2 gX3_custodian_X3_isBundle rfl rfl rfl (by decide +kernel) ⟨Nat.le_of_ble_eq_true rfl, Nat.le_of_ble_eq_true rfl⟩) (m_recv B G M) rfl hl.1 rfl (Nat.le_of_ble_eq_true rfl) ⟨Nat.zero_le _, Nat.zero_le _⟩ dX3_custodian_3 (fun H locs G => ?_)
  refine lv_if_eq (tgt := 13) hx hb dX3_custodian_6 (by decide) (fun c_6 => ?_) (fun c_6 => ?_)
  · exact False.elim (b2i_0.mp c_6 (hk1))
  · skip
    refine lv_iconst (v := 0) hx hb dX3_custodian_9 (by decide) ?_
    refine lv_goto (tgt := 14) hx hb dX3_custodian_10 (by decide) ?_
    refine x_callVi (rest := []) B G (c_X3_holds l M V 0) (cwV 1 B.1.2.2.2.2 gX3_custodian_X3_holds rfl rfl rfl (by decide +kernel) ⟨Nat.le_of_ble_eq_true rfl, Nat.le_of_ble_eq_true rfl⟩) (m_recv B G M) rfl hl.1 rfl (Nat.le_of_ble_eq_true rfl) ⟨Nat.zero_le _, Nat.zero_le _⟩ dX3_custodian_14 (fun H locs G => ?_)
    refine lv_if_eq (tgt := 24) hx hb dX3_custodian_17 (by decide) (fun c_17 => ?_) (fun c_17 => ?_)
    · skip
      refine lv_aload_n hx hb dX3_custodian_24 rfl (lv_at hl 0 rfl) ?_
      refine m_getA B G M hin 3 (by decide) (by decide +kernel) dX3_custodian_25 ?_
      refine lv_iload_n hx hb dX3_custodian_28 rfl (lv_at hl 1 rfl) ?_
      refine m_ald B G M 3 (by decide) k (show k < 40 by omega) rfl dX3_custodian_29 ?_
      exact x_iret B G (rfl) (rfl) dX3_custodian_30
    · exact False.elim (c_17 (by decide))
set_option maxHeartbeats 4000000 in
set_option maxRecDepth 100000 in
theorem c_X3_custodian_bad (l : Launch) {D : va_G} {sh : xS} {ad : Nat → Nat} {cI : ClassId} {tys : List (ClassId × FieldType)} (M : xMm sh ad cI tys) (V : xV) (x : Int32) (h : ¬ (0 ≤ x ∧ x ≤ V 17 17 - 1)) : xMi l yX3_custodian wsX3_custodian (rmK 2) D sh ad tys V [.ref (ad 17), .int x] (-1) (xu V 17 20 1) := by
  refine xOfi (cc := cX3_custodian) (nL := 2) (ret := some .int) (own := RX3) (by decide) rfl rfl (Nat.le_of_ble_eq_true rfl) M.2.2 ?_
  intro p e s m args below meth c A ls B G hl
  have hx := B.1.1
  have hb := B.1.2.1
  have hin : ∀ w ∈ wsX30, w ∈ wsX3_custodian := by decide +kernel
  have hl : lv_has ls 2 [(0, .ref (ad 17)), (1, .int x)] := hl
  refine lv_aload_n hx hb dX3_custodian_0 rfl (lv_at hl 0 rfl) ?_
  refine lv_aload_n hx hb dX3_custodian_1 rfl (lv_at hl 0 rfl) ?_
  refine lv_iload_n hx hb dX3_custodian_2 rfl (lv_at hl 1 rfl) ?_
  refine x_callVi (rest := [.ref (ad 17)]) B G (c_X3_isBundle l M V x) (cwV 1 B.1.2.2.2.2 gX3_custodian_X3_isBundle rfl rfl rfl (by decide +kernel) ⟨Nat.le_of_ble_eq_true rfl, Nat.le_of_ble_eq_true rfl⟩) (m_recv B G M) rfl hl.1 rfl (Nat.le_of_ble_eq_true rfl) ⟨Nat.zero_le _, Nat.zero_le _⟩ dX3_custodian_3 (fun H locs G => ?_)
  refine lv_if_eq (tgt := 13) hx hb dX3_custodian_6 (by decide) (fun c_6 => ?_) (fun c_6 => ?_)
  · skip
    refine lv_iconst (v := 1) hx hb dX3_custodian_13 (by decide) ?_
    refine x_callVi (rest := []) B G (c_X3_holds l M V 1) (cwV 1 B.1.2.2.2.2 gX3_custodian_X3_holds rfl rfl rfl (by decide +kernel) ⟨Nat.le_of_ble_eq_true rfl, Nat.le_of_ble_eq_true rfl⟩) (m_recv B G M) rfl hl.1 rfl (Nat.le_of_ble_eq_true rfl) ⟨Nat.zero_le _, Nat.zero_le _⟩ dX3_custodian_14 (fun H locs G => ?_)
    refine lv_if_eq (tgt := 24) hx hb dX3_custodian_17 (by decide) (fun c_17 => ?_) (fun c_17 => ?_)
    · exact False.elim (absurd c_17 (by decide))
    · skip
      refine lv_iconst (v := (-1)) hx hb dX3_custodian_20 (by decide) ?_
      refine lv_goto (tgt := 30) hx hb dX3_custodian_21 (by decide) ?_
      exact x_iret B G (rfl) (rfl) dX3_custodian_30
  · exact False.elim (c_6 (b2i_f (h)))
set_option maxHeartbeats 4000000 in
set_option maxRecDepth 100000 in
theorem c_X3_dropped_ok (l : Launch) {D : va_G} {sh : xS} {ad : Nat → Nat} {cI : ClassId} {tys : List (ClassId × FieldType)} (M : xMm sh ad cI tys) (V : xV) (n : Nat) (hn : n < 8) : xMi l yX3_dropped wsX3_dropped (rmK 2) D sh ad tys V [.ref (ad 17), .int (nI n)] (V 10 n) (xu V 17 20 0) := by
  refine xOfi (cc := cX3_dropped) (nL := 2) (ret := some .int) (own := RX3) (by decide) rfl rfl (Nat.le_of_ble_eq_true rfl) M.2.2 ?_
  intro p e s m args below meth c A ls B G hl
  have hx := B.1.1
  have hb := B.1.2.1
  have hin : ∀ w ∈ wsX30, w ∈ wsX3_dropped := by decide +kernel
  have hl : lv_has ls 2 [(0, .ref (ad 17)), (1, .int (nI n))] := hl
  refine lv_aload_n hx hb dX3_dropped_0 rfl (lv_at hl 0 rfl) ?_
  refine lv_aload_n hx hb dX3_dropped_1 rfl (lv_at hl 0 rfl) ?_
  refine lv_iload_n hx hb dX3_dropped_2 rfl (lv_at hl 1 rfl) ?_
  refine x_callVi (rest := [.ref (ad 17)]) B G (c_X3_isNode l M V (nI n)) (cwV 1 B.1.2.2.2.2 gX3_dropped_X3_isNode rfl rfl rfl (by decide +kernel) ⟨Nat.le_of_ble_eq_true rfl, Nat.le_of_ble_eq_true rfl⟩) (m_recv B G M) rfl hl.1 rfl (Nat.le_of_ble_eq_true rfl) ⟨Nat.zero_le _, Nat.zero_le _⟩ dX3_dropped_3 (fun H locs G => ?_)
  refine lv_if_eq (tgt := 13) hx hb dX3_dropped_6 (by decide) (fun c_6 => ?_) (fun c_6 => ?_)
  · exact False.elim (b2i_0.mp c_6 (nodeOK hn))
  · skip
    refine lv_iconst (v := 0) hx hb dX3_dropped_9 (by decide) ?_
    refine lv_goto (tgt := 14) hx hb dX3_dropped_10 (by decide) ?_
    refine x_callVi (rest := []) B G (c_X3_holds l M V 0) (cwV 1 B.1.2.2.2.2 gX3_dropped_X3_holds rfl rfl rfl (by decide +kernel) ⟨Nat.le_of_ble_eq_true rfl, Nat.le_of_ble_eq_true rfl⟩) (m_recv B G M) rfl hl.1 rfl (Nat.le_of_ble_eq_true rfl) ⟨Nat.zero_le _, Nat.zero_le _⟩ dX3_dropped_14 (fun H locs G => ?_)
    refine lv_if_eq (tgt := 24) hx hb dX3_dropped_17 (by decide) (fun c_17 => ?_) (fun c_17 => ?_)
    · skip
      refine lv_aload_n hx hb dX3_dropped_24 rfl (lv_at hl 0 rfl) ?_
      refine m_getA B G M hin 10 (by decide) (by decide +kernel) dX3_dropped_25 ?_
      refine lv_iload_n hx hb dX3_dropped_28 rfl (lv_at hl 1 rfl) ?_
      refine m_ald B G M 10 (by decide) n (show n < 8 by omega) rfl dX3_dropped_29 ?_
      exact x_iret B G (rfl) (rfl) dX3_dropped_30
    · exact False.elim (c_17 (by decide))
set_option maxHeartbeats 4000000 in
set_option maxRecDepth 100000 in
theorem c_X3_dropped_bad (l : Launch) {D : va_G} {sh : xS} {ad : Nat → Nat} {cI : ClassId} {tys : List (ClassId × FieldType)} (M : xMm sh ad cI tys) (V : xV) (x : Int32) (h : ¬ (0 ≤ x ∧ x ≤ 7)) : xMi l yX3_dropped wsX3_dropped (rmK 2) D sh ad tys V [.ref (ad 17), .int x] (-1) (xu V 17 20 1) := by
  refine xOfi (cc := cX3_dropped) (nL := 2) (ret := some .int) (own := RX3) (by decide) rfl rfl (Nat.le_of_ble_eq_true rfl) M.2.2 ?_
  intro p e s m args below meth c A ls B G hl
  have hx := B.1.1
  have hb := B.1.2.1
  have hin : ∀ w ∈ wsX30, w ∈ wsX3_dropped := by decide +kernel
  have hl : lv_has ls 2 [(0, .ref (ad 17)), (1, .int x)] := hl
  refine lv_aload_n hx hb dX3_dropped_0 rfl (lv_at hl 0 rfl) ?_
  refine lv_aload_n hx hb dX3_dropped_1 rfl (lv_at hl 0 rfl) ?_
  refine lv_iload_n hx hb dX3_dropped_2 rfl (lv_at hl 1 rfl) ?_
  refine x_callVi (rest := [.ref (ad 17)]) B G (c_X3_isNode l M V x) (cwV 1 B.1.2.2.2.2 gX3_dropped_X3_isNode rfl rfl rfl (by decide +kernel) ⟨Nat.le_of_ble_eq_true rfl, Nat.le_of_ble_eq_true rfl⟩) (m_recv B G M) rfl hl.1 rfl (Nat.le_of_ble_eq_true rfl) ⟨Nat.zero_le _, Nat.zero_le _⟩ dX3_dropped_3 (fun H locs G => ?_)
  refine lv_if_eq (tgt := 13) hx hb dX3_dropped_6 (by decide) (fun c_6 => ?_) (fun c_6 => ?_)
  · skip
    refine lv_iconst (v := 1) hx hb dX3_dropped_13 (by decide) ?_
    refine x_callVi (rest := []) B G (c_X3_holds l M V 1) (cwV 1 B.1.2.2.2.2 gX3_dropped_X3_holds rfl rfl rfl (by decide +kernel) ⟨Nat.le_of_ble_eq_true rfl, Nat.le_of_ble_eq_true rfl⟩) (m_recv B G M) rfl hl.1 rfl (Nat.le_of_ble_eq_true rfl) ⟨Nat.zero_le _, Nat.zero_le _⟩ dX3_dropped_14 (fun H locs G => ?_)
    refine lv_if_eq (tgt := 24) hx hb dX3_dropped_17 (by decide) (fun c_17 => ?_) (fun c_17 => ?_)
    · exact False.elim (absurd c_17 (by decide))
    · skip
      refine lv_iconst (v := (-1)) hx hb dX3_dropped_20 (by decide) ?_
      refine lv_goto (tgt := 30) hx hb dX3_dropped_21 (by decide) ?_
      exact x_iret B G (rfl) (rfl) dX3_dropped_30
  · exact False.elim (c_6 (b2i_f (h)))
set_option maxHeartbeats 4000000 in
set_option maxRecDepth 100000 in
theorem c_X3_refused_ok (l : Launch) {D : va_G} {sh : xS} {ad : Nat → Nat} {cI : ClassId} {tys : List (ClassId × FieldType)} (M : xMm sh ad cI tys) (V : xV) (n : Nat) (hn : n < 8) : xMi l yX3_refused wsX3_refused (rmK 2) D sh ad tys V [.ref (ad 17), .int (nI n)] (V 11 n) (xu V 17 20 0) := by
  refine xOfi (cc := cX3_refused) (nL := 2) (ret := some .int) (own := RX3) (by decide) rfl rfl (Nat.le_of_ble_eq_true rfl) M.2.2 ?_
  intro p e s m args below meth c A ls B G hl
  have hx := B.1.1
  have hb := B.1.2.1
  have hin : ∀ w ∈ wsX30, w ∈ wsX3_refused := by decide +kernel
  have hl : lv_has ls 2 [(0, .ref (ad 17)), (1, .int (nI n))] := hl
  refine lv_aload_n hx hb dX3_refused_0 rfl (lv_at hl 0 rfl) ?_
  refine lv_aload_n hx hb dX3_refused_1 rfl (lv_at hl 0 rfl) ?_
  refine lv_iload_n hx hb dX3_refused_2 rfl (lv_at hl 1 rfl) ?_
  refine x_callVi (rest := [.ref (ad 17)]) B G (c_X3_isNode l M V (nI n)) (cwV 1 B.1.2.2.2.2 gX3_refused_X3_isNode rfl rfl rfl (by decide +kernel) ⟨Nat.le_of_ble_eq_true rfl, Nat.le_of_ble_eq_true rfl⟩) (m_recv B G M) rfl hl.1 rfl (Nat.le_of_ble_eq_true rfl) ⟨Nat.zero_le _, Nat.zero_le _⟩ dX3_refused_3 (fun H locs G => ?_)
  refine lv_if_eq (tgt := 13) hx hb dX3_refused_6 (by decide) (fun c_6 => ?_) (fun c_6 => ?_)
  · exact False.elim (b2i_0.mp c_6 (nodeOK hn))
  · skip
    refine lv_iconst (v := 0) hx hb dX3_refused_9 (by decide) ?_
    refine lv_goto (tgt := 14) hx hb dX3_refused_10 (by decide) ?_
    refine x_callVi (rest := []) B G (c_X3_holds l M V 0) (cwV 1 B.1.2.2.2.2 gX3_refused_X3_holds rfl rfl rfl (by decide +kernel) ⟨Nat.le_of_ble_eq_true rfl, Nat.le_of_ble_eq_true rfl⟩) (m_recv B G M) rfl hl.1 rfl (Nat.le_of_ble_eq_true rfl) ⟨Nat.zero_le _, Nat.zero_le _⟩ dX3_refused_14 (fun H locs G => ?_)
    refine lv_if_eq (tgt := 24) hx hb dX3_refused_17 (by decide) (fun c_17 => ?_) (fun c_17 => ?_)
    · skip
      refine lv_aload_n hx hb dX3_refused_24 rfl (lv_at hl 0 rfl) ?_
      refine m_getA B G M hin 11 (by decide) (by decide +kernel) dX3_refused_25 ?_
      refine lv_iload_n hx hb dX3_refused_28 rfl (lv_at hl 1 rfl) ?_
      refine m_ald B G M 11 (by decide) n (show n < 8 by omega) rfl dX3_refused_29 ?_
      exact x_iret B G (rfl) (rfl) dX3_refused_30
    · exact False.elim (c_17 (by decide))
set_option maxHeartbeats 4000000 in
set_option maxRecDepth 100000 in
theorem c_X3_refused_bad (l : Launch) {D : va_G} {sh : xS} {ad : Nat → Nat} {cI : ClassId} {tys : List (ClassId × FieldType)} (M : xMm sh ad cI tys) (V : xV) (x : Int32) (h : ¬ (0 ≤ x ∧ x ≤ 7)) : xMi l yX3_refused wsX3_refused (rmK 2) D sh ad tys V [.ref (ad 17), .int x] (-1) (xu V 17 20 1) := by
  refine xOfi (cc := cX3_refused) (nL := 2) (ret := some .int) (own := RX3) (by decide) rfl rfl (Nat.le_of_ble_eq_true rfl) M.2.2 ?_
  intro p e s m args below meth c A ls B G hl
  have hx := B.1.1
  have hb := B.1.2.1
  have hin : ∀ w ∈ wsX30, w ∈ wsX3_refused := by decide +kernel
  have hl : lv_has ls 2 [(0, .ref (ad 17)), (1, .int x)] := hl
  refine lv_aload_n hx hb dX3_refused_0 rfl (lv_at hl 0 rfl) ?_
  refine lv_aload_n hx hb dX3_refused_1 rfl (lv_at hl 0 rfl) ?_
  refine lv_iload_n hx hb dX3_refused_2 rfl (lv_at hl 1 rfl) ?_
  refine x_callVi (rest := [.ref (ad 17)]) B G (c_X3_isNode l M V x) (cwV 1 B.1.2.2.2.2 gX3_refused_X3_isNode rfl rfl rfl (by decide +kernel) ⟨Nat.le_of_ble_eq_true rfl, Nat.le_of_ble_eq_true rfl⟩) (m_recv B G M) rfl hl.1 rfl (Nat.le_of_ble_eq_true rfl) ⟨Nat.zero_le _, Nat.zero_le _⟩ dX3_refused_3 (fun H locs G => ?_)
  refine lv_if_eq (tgt := 13) hx hb dX3_refused_6 (by decide) (fun c_6 => ?_) (fun c_6 => ?_)
  · skip
    refine lv_iconst (v := 1) hx hb dX3_refused_13 (by decide) ?_
    refine x_callVi (rest := []) B G (c_X3_holds l M V 1) (cwV 1 B.1.2.2.2.2 gX3_refused_X3_holds rfl rfl rfl (by decide +kernel) ⟨Nat.le_of_ble_eq_true rfl, Nat.le_of_ble_eq_true rfl⟩) (m_recv B G M) rfl hl.1 rfl (Nat.le_of_ble_eq_true rfl) ⟨Nat.zero_le _, Nat.zero_le _⟩ dX3_refused_14 (fun H locs G => ?_)
    refine lv_if_eq (tgt := 24) hx hb dX3_refused_17 (by decide) (fun c_17 => ?_) (fun c_17 => ?_)
    · exact False.elim (absurd c_17 (by decide))
    · skip
      refine lv_iconst (v := (-1)) hx hb dX3_refused_20 (by decide) ?_
      refine lv_goto (tgt := 30) hx hb dX3_refused_21 (by decide) ?_
      exact x_iret B G (rfl) (rfl) dX3_refused_30
  · exact False.elim (c_6 (b2i_f (h)))
set_option maxHeartbeats 4000000 in
set_option maxRecDepth 100000 in
theorem c_X3_held_ok (l : Launch) {D : va_G} {sh : xS} {ad : Nat → Nat} {cI : ClassId} {tys : List (ClassId × FieldType)} (M : xMm sh ad cI tys) (V : xV) (n cnt : Nat) (hn : n < 8) (hcnt : V 17 17 = nI cnt) (hc40 : cnt ≤ 40) : xMi l yX3_held wsX3_held (rmK 2) D sh ad tys V [.ref (ad 17), .int (nI n)] (nI (cntP (mHas V n) cnt)) (xu V 17 20 0) := by
  refine xOfi (cc := cX3_held) (nL := 2) (ret := some .int) (own := RX3) (by decide) rfl rfl (Nat.le_of_ble_eq_true rfl) M.2.2 ?_
  intro p e s m args below meth c A ls B G hl
  have hx := B.1.1
  have hb := B.1.2.1
  have hin : ∀ w ∈ wsX30, w ∈ wsX3_held := by decide +kernel
  have hl : lv_has ls 2 [(0, .ref (ad 17)), (1, .int (nI n))] := hl
  refine lv_aload_n hx hb dX3_held_0 rfl (lv_at hl 0 rfl) ?_
  refine lv_aload_n hx hb dX3_held_1 rfl (lv_at hl 0 rfl) ?_
  refine lv_iload_n hx hb dX3_held_2 rfl (lv_at hl 1 rfl) ?_
  refine x_callVi (rest := [.ref (ad 17)]) B G (c_X3_isNode l M V (nI n)) (cwV 1 B.1.2.2.2.2 gX3_held_X3_isNode rfl rfl rfl (by decide +kernel) ⟨Nat.le_of_ble_eq_true rfl, Nat.le_of_ble_eq_true rfl⟩) (m_recv B G M) rfl hl.1 rfl (Nat.le_of_ble_eq_true rfl) ⟨Nat.zero_le _, Nat.zero_le _⟩ dX3_held_3 (fun H locs G => ?_)
  refine lv_if_eq (tgt := 13) hx hb dX3_held_6 (by decide) (fun c_6 => ?_) (fun c_6 => ?_)
  · exact False.elim (b2i_0.mp c_6 (nodeOK hn))
  · skip
    refine lv_iconst (v := 0) hx hb dX3_held_9 (by decide) ?_
    refine lv_goto (tgt := 14) hx hb dX3_held_10 (by decide) ?_
    refine x_callVi (rest := []) B G (c_X3_holds l M V 0) (cwV 1 B.1.2.2.2.2 gX3_held_X3_holds rfl rfl rfl (by decide +kernel) ⟨Nat.le_of_ble_eq_true rfl, Nat.le_of_ble_eq_true rfl⟩) (m_recv B G M) rfl hl.1 rfl (Nat.le_of_ble_eq_true rfl) ⟨Nat.zero_le _, Nat.zero_le _⟩ dX3_held_14 (fun H locs G => ?_)
    refine lv_if_eq (tgt := 24) hx hb dX3_held_17 (by decide) (fun c_17 => ?_) (fun c_17 => ?_)
    · skip
      refine lv_aload_n hx hb dX3_held_24 rfl (lv_at hl 0 rfl) ?_
      refine lv_iload_n hx hb dX3_held_25 rfl (lv_at hl 1 rfl) ?_
      refine x_callVi (rest := []) B G (c_X3_load l M (xu V 17 20 0) n cnt (by omega) hcnt hc40) (cwV 1 B.1.2.2.2.2 gX3_held_X3_load rfl rfl rfl (by decide +kernel) ⟨Nat.le_of_ble_eq_true rfl, Nat.le_of_ble_eq_true rfl⟩) (m_recv B G M) rfl hl.1 rfl (Nat.le_of_ble_eq_true rfl) ⟨Nat.zero_le _, Nat.zero_le _⟩ dX3_held_26 (fun H locs G => ?_)
      exact x_iret B G (rfl) (rfl) dX3_held_29
    · exact False.elim (c_17 (by decide))
set_option maxHeartbeats 4000000 in
set_option maxRecDepth 100000 in
theorem c_X3_held_bad (l : Launch) {D : va_G} {sh : xS} {ad : Nat → Nat} {cI : ClassId} {tys : List (ClassId × FieldType)} (M : xMm sh ad cI tys) (V : xV) (x : Int32) (h : ¬ (0 ≤ x ∧ x ≤ 7)) : xMi l yX3_held wsX3_held (rmK 2) D sh ad tys V [.ref (ad 17), .int x] (-1) (xu V 17 20 1) := by
  refine xOfi (cc := cX3_held) (nL := 2) (ret := some .int) (own := RX3) (by decide) rfl rfl (Nat.le_of_ble_eq_true rfl) M.2.2 ?_
  intro p e s m args below meth c A ls B G hl
  have hx := B.1.1
  have hb := B.1.2.1
  have hin : ∀ w ∈ wsX30, w ∈ wsX3_held := by decide +kernel
  have hl : lv_has ls 2 [(0, .ref (ad 17)), (1, .int x)] := hl
  refine lv_aload_n hx hb dX3_held_0 rfl (lv_at hl 0 rfl) ?_
  refine lv_aload_n hx hb dX3_held_1 rfl (lv_at hl 0 rfl) ?_
  refine lv_iload_n hx hb dX3_held_2 rfl (lv_at hl 1 rfl) ?_
  refine x_callVi (rest := [.ref (ad 17)]) B G (c_X3_isNode l M V x) (cwV 1 B.1.2.2.2.2 gX3_held_X3_isNode rfl rfl rfl (by decide +kernel) ⟨Nat.le_of_ble_eq_true rfl, Nat.le_of_ble_eq_true rfl⟩) (m_recv B G M) rfl hl.1 rfl (Nat.le_of_ble_eq_true rfl) ⟨Nat.zero_le _, Nat.zero_le _⟩ dX3_held_3 (fun H locs G => ?_)
  refine lv_if_eq (tgt := 13) hx hb dX3_held_6 (by decide) (fun c_6 => ?_) (fun c_6 => ?_)
  · skip
    refine lv_iconst (v := 1) hx hb dX3_held_13 (by decide) ?_
    refine x_callVi (rest := []) B G (c_X3_holds l M V 1) (cwV 1 B.1.2.2.2.2 gX3_held_X3_holds rfl rfl rfl (by decide +kernel) ⟨Nat.le_of_ble_eq_true rfl, Nat.le_of_ble_eq_true rfl⟩) (m_recv B G M) rfl hl.1 rfl (Nat.le_of_ble_eq_true rfl) ⟨Nat.zero_le _, Nat.zero_le _⟩ dX3_held_14 (fun H locs G => ?_)
    refine lv_if_eq (tgt := 24) hx hb dX3_held_17 (by decide) (fun c_17 => ?_) (fun c_17 => ?_)
    · exact False.elim (absurd c_17 (by decide))
    · skip
      refine lv_iconst (v := (-1)) hx hb dX3_held_20 (by decide) ?_
      refine lv_goto (tgt := 29) hx hb dX3_held_21 (by decide) ?_
      exact x_iret B G (rfl) (rfl) dX3_held_29
  · exact False.elim (c_6 (b2i_f (h)))
set_option maxHeartbeats 4000000 in
set_option maxRecDepth 100000 in
theorem c_X3_copies_ok (l : Launch) {D : va_G} {sh : xS} {ad : Nat → Nat} {cI : ClassId} {tys : List (ClassId × FieldType)} (M : xMm sh ad cI tys) (V : xV) (n k : Nat) (hn : n < 8) (hk : k < 40) (hk1 : 0 ≤ nI k ∧ nI k ≤ V 17 17 - 1) : xMi l yX3_copies wsX3_copies (rmK 2) D sh ad tys V [.ref (ad 17), .int (nI n), .int (nI k)] (V 6 (40 * n + k)) (xu V 17 20 0) := by
  refine xOfi (cc := cX3_copies) (nL := 3) (ret := some .int) (own := RX3) (by decide) rfl rfl (Nat.le_of_ble_eq_true rfl) M.2.2 ?_
  intro p e s m args below meth c A ls B G hl
  have hx := B.1.1
  have hb := B.1.2.1
  have hin : ∀ w ∈ wsX30, w ∈ wsX3_copies := by decide +kernel
  have hl : lv_has ls 3 [(0, .ref (ad 17)), (1, .int (nI n)), (2, .int (nI k))] := hl
  refine lv_aload_n hx hb dX3_copies_0 rfl (lv_at hl 0 rfl) ?_
  refine lv_aload_n hx hb dX3_copies_1 rfl (lv_at hl 0 rfl) ?_
  refine lv_iload_n hx hb dX3_copies_2 rfl (lv_at hl 1 rfl) ?_
  refine x_callVi (rest := [.ref (ad 17)]) B G (c_X3_isNode l M V (nI n)) (cwV 1 B.1.2.2.2.2 gX3_copies_X3_isNode rfl rfl rfl (by decide +kernel) ⟨Nat.le_of_ble_eq_true rfl, Nat.le_of_ble_eq_true rfl⟩) (m_recv B G M) rfl hl.1 rfl (Nat.le_of_ble_eq_true rfl) ⟨Nat.zero_le _, Nat.zero_le _⟩ dX3_copies_3 (fun H locs G => ?_)
  refine lv_if_eq (tgt := 21) hx hb dX3_copies_6 (by decide) (fun c_6 => ?_) (fun c_6 => ?_)
  · exact False.elim (b2i_0.mp c_6 (nodeOK hn))
  · skip
    refine lv_aload_n hx hb dX3_copies_9 rfl (lv_at hl 0 rfl) ?_
    refine lv_iload_n hx hb dX3_copies_10 rfl (lv_at hl 2 rfl) ?_
    refine x_callVi (rest := [.ref (ad 17)]) B G (c_X3_isBundle l M V (nI k)) (cwV 1 B.1.2.2.2.2 gX3_copies_X3_isBundle rfl rfl rfl (by decide +kernel) ⟨Nat.le_of_ble_eq_true rfl, Nat.le_of_ble_eq_true rfl⟩) (m_recv B G M) rfl hl.1 rfl (Nat.le_of_ble_eq_true rfl) ⟨Nat.zero_le _, Nat.zero_le _⟩ dX3_copies_11 (fun H locs G => ?_)
    refine lv_if_eq (tgt := 21) hx hb dX3_copies_14 (by decide) (fun c_14 => ?_) (fun c_14 => ?_)
    · exact False.elim (b2i_0.mp c_14 (hk1))
    · skip
      refine lv_iconst (v := 0) hx hb dX3_copies_17 (by decide) ?_
      refine lv_goto (tgt := 22) hx hb dX3_copies_18 (by decide) ?_
      refine x_callVi (rest := []) B G (c_X3_holds l M V 0) (cwV 1 B.1.2.2.2.2 gX3_copies_X3_holds rfl rfl rfl (by decide +kernel) ⟨Nat.le_of_ble_eq_true rfl, Nat.le_of_ble_eq_true rfl⟩) (m_recv B G M) rfl hl.1 rfl (Nat.le_of_ble_eq_true rfl) ⟨Nat.zero_le _, Nat.zero_le _⟩ dX3_copies_22 (fun H locs G => ?_)
      refine lv_if_eq (tgt := 32) hx hb dX3_copies_25 (by decide) (fun c_25 => ?_) (fun c_25 => ?_)
      · skip
        refine lv_aload_n hx hb dX3_copies_32 rfl (lv_at hl 0 rfl) ?_
        refine m_getA B G M hin 6 (by decide) (by decide +kernel) dX3_copies_33 ?_
        refine lv_bipush (v := 40) hx hb dX3_copies_36 (by decide) ?_
        refine lv_iload_n hx hb dX3_copies_38 rfl (lv_at hl 1 rfl) ?_
        refine lv_imul hx hb dX3_copies_39 ?_
        refine x_top (show 40 * (nI n) = nI (40 * n) from pk_mul 40 n) ?_
        refine lv_iload_n hx hb dX3_copies_40 rfl (lv_at hl 2 rfl) ?_
        refine lv_iadd hx hb dX3_copies_41 ?_
        refine x_top (show (nI (40 * n)) + (nI k) = nI ((40 * n) + k) from nI_add (40 * n) k) ?_
        refine m_ald B G M 6 (by decide) ((40 * n) + k) (show ((40 * n) + k) < 320 by omega) rfl dX3_copies_42 ?_
        exact x_iret B G (rfl) (rfl) dX3_copies_43
      · exact False.elim (c_25 (by decide))
set_option maxHeartbeats 4000000 in
set_option maxRecDepth 100000 in
theorem c_X3_copies_bad (l : Launch) {D : va_G} {sh : xS} {ad : Nat → Nat} {cI : ClassId} {tys : List (ClassId × FieldType)} (M : xMm sh ad cI tys) (V : xV) (x y : Int32) (h : ¬ ((0 ≤ x ∧ x ≤ 7) ∧ (0 ≤ y ∧ y ≤ V 17 17 - 1))) : xMi l yX3_copies wsX3_copies (rmK 2) D sh ad tys V [.ref (ad 17), .int x, .int y] (-1) (xu V 17 20 1) := by
  refine xOfi (cc := cX3_copies) (nL := 3) (ret := some .int) (own := RX3) (by decide) rfl rfl (Nat.le_of_ble_eq_true rfl) M.2.2 ?_
  intro p e s m args below meth c A ls B G hl
  have hx := B.1.1
  have hb := B.1.2.1
  have hin : ∀ w ∈ wsX30, w ∈ wsX3_copies := by decide +kernel
  have hl : lv_has ls 3 [(0, .ref (ad 17)), (1, .int x), (2, .int y)] := hl
  refine lv_aload_n hx hb dX3_copies_0 rfl (lv_at hl 0 rfl) ?_
  refine lv_aload_n hx hb dX3_copies_1 rfl (lv_at hl 0 rfl) ?_
  refine lv_iload_n hx hb dX3_copies_2 rfl (lv_at hl 1 rfl) ?_
  refine x_callVi (rest := [.ref (ad 17)]) B G (c_X3_isNode l M V x) (cwV 1 B.1.2.2.2.2 gX3_copies_X3_isNode rfl rfl rfl (by decide +kernel) ⟨Nat.le_of_ble_eq_true rfl, Nat.le_of_ble_eq_true rfl⟩) (m_recv B G M) rfl hl.1 rfl (Nat.le_of_ble_eq_true rfl) ⟨Nat.zero_le _, Nat.zero_le _⟩ dX3_copies_3 (fun H locs G => ?_)
  refine lv_if_eq (tgt := 21) hx hb dX3_copies_6 (by decide) (fun c_6 => ?_) (fun c_6 => ?_)
  · skip
    refine lv_iconst (v := 1) hx hb dX3_copies_21 (by decide) ?_
    refine x_callVi (rest := []) B G (c_X3_holds l M V 1) (cwV 1 B.1.2.2.2.2 gX3_copies_X3_holds rfl rfl rfl (by decide +kernel) ⟨Nat.le_of_ble_eq_true rfl, Nat.le_of_ble_eq_true rfl⟩) (m_recv B G M) rfl hl.1 rfl (Nat.le_of_ble_eq_true rfl) ⟨Nat.zero_le _, Nat.zero_le _⟩ dX3_copies_22 (fun H locs G => ?_)
    refine lv_if_eq (tgt := 32) hx hb dX3_copies_25 (by decide) (fun c_25 => ?_) (fun c_25 => ?_)
    · exact False.elim (absurd c_25 (by decide))
    · skip
      refine lv_iconst (v := (-1)) hx hb dX3_copies_28 (by decide) ?_
      refine lv_goto (tgt := 43) hx hb dX3_copies_29 (by decide) ?_
      exact x_iret B G (rfl) (rfl) dX3_copies_43
  · skip
    refine lv_aload_n hx hb dX3_copies_9 rfl (lv_at hl 0 rfl) ?_
    refine lv_iload_n hx hb dX3_copies_10 rfl (lv_at hl 2 rfl) ?_
    refine x_callVi (rest := [.ref (ad 17)]) B G (c_X3_isBundle l M V y) (cwV 1 B.1.2.2.2.2 gX3_copies_X3_isBundle rfl rfl rfl (by decide +kernel) ⟨Nat.le_of_ble_eq_true rfl, Nat.le_of_ble_eq_true rfl⟩) (m_recv B G M) rfl hl.1 rfl (Nat.le_of_ble_eq_true rfl) ⟨Nat.zero_le _, Nat.zero_le _⟩ dX3_copies_11 (fun H locs G => ?_)
    refine lv_if_eq (tgt := 21) hx hb dX3_copies_14 (by decide) (fun c_14 => ?_) (fun c_14 => ?_)
    · skip
      refine lv_iconst (v := 1) hx hb dX3_copies_21 (by decide) ?_
      refine x_callVi (rest := []) B G (c_X3_holds l M V 1) (cwV 1 B.1.2.2.2.2 gX3_copies_X3_holds rfl rfl rfl (by decide +kernel) ⟨Nat.le_of_ble_eq_true rfl, Nat.le_of_ble_eq_true rfl⟩) (m_recv B G M) rfl hl.1 rfl (Nat.le_of_ble_eq_true rfl) ⟨Nat.zero_le _, Nat.zero_le _⟩ dX3_copies_22 (fun H locs G => ?_)
      refine lv_if_eq (tgt := 32) hx hb dX3_copies_25 (by decide) (fun c_25 => ?_) (fun c_25 => ?_)
      · exact False.elim (absurd c_25 (by decide))
      · skip
        refine lv_iconst (v := (-1)) hx hb dX3_copies_28 (by decide) ?_
        refine lv_goto (tgt := 43) hx hb dX3_copies_29 (by decide) ?_
        exact x_iret B G (rfl) (rfl) dX3_copies_43
    · skip
      exact absurd ⟨b2i_1 c_6, b2i_1 c_14⟩ h
set_option maxHeartbeats 4000000 in
set_option maxRecDepth 100000 in
theorem c_X3_knows_ok (l : Launch) {D : va_G} {sh : xS} {ad : Nat → Nat} {cI : ClassId} {tys : List (ClassId × FieldType)} (M : xMm sh ad cI tys) (V : xV) (n k : Nat) (hn : n < 8) (hk : k < 40) (hk1 : 0 ≤ nI k ∧ nI k ≤ V 17 17 - 1) : xMi l yX3_knows wsX3_knows (rmK 2) D sh ad tys V [.ref (ad 17), .int (nI n), .int (nI k)] (b2i (V 8 (40 * n + k) = 1)) (xu V 17 20 0) := by
  refine xOfi (cc := cX3_knows) (nL := 3) (ret := some .boolean) (own := RX3) (by decide) rfl rfl (Nat.le_of_ble_eq_true rfl) M.2.2 ?_
  intro p e s m args below meth c A ls B G hl
  have hx := B.1.1
  have hb := B.1.2.1
  have hin : ∀ w ∈ wsX30, w ∈ wsX3_knows := by decide +kernel
  have hl : lv_has ls 3 [(0, .ref (ad 17)), (1, .int (nI n)), (2, .int (nI k))] := hl
  refine lv_aload_n hx hb dX3_knows_0 rfl (lv_at hl 0 rfl) ?_
  refine lv_aload_n hx hb dX3_knows_1 rfl (lv_at hl 0 rfl) ?_
  refine lv_iload_n hx hb dX3_knows_2 rfl (lv_at hl 1 rfl) ?_
  refine x_callVi (rest := [.ref (ad 17)]) B G (c_X3_isNode l M V (nI n)) (cwV 1 B.1.2.2.2.2 gX3_knows_X3_isNode rfl rfl rfl (by decide +kernel) ⟨Nat.le_of_ble_eq_true rfl, Nat.le_of_ble_eq_true rfl⟩) (m_recv B G M) rfl hl.1 rfl (Nat.le_of_ble_eq_true rfl) ⟨Nat.zero_le _, Nat.zero_le _⟩ dX3_knows_3 (fun H locs G => ?_)
  refine lv_if_eq (tgt := 21) hx hb dX3_knows_6 (by decide) (fun c_6 => ?_) (fun c_6 => ?_)
  · exact False.elim (b2i_0.mp c_6 (nodeOK hn))
  · skip
    refine lv_aload_n hx hb dX3_knows_9 rfl (lv_at hl 0 rfl) ?_
    refine lv_iload_n hx hb dX3_knows_10 rfl (lv_at hl 2 rfl) ?_
    refine x_callVi (rest := [.ref (ad 17)]) B G (c_X3_isBundle l M V (nI k)) (cwV 1 B.1.2.2.2.2 gX3_knows_X3_isBundle rfl rfl rfl (by decide +kernel) ⟨Nat.le_of_ble_eq_true rfl, Nat.le_of_ble_eq_true rfl⟩) (m_recv B G M) rfl hl.1 rfl (Nat.le_of_ble_eq_true rfl) ⟨Nat.zero_le _, Nat.zero_le _⟩ dX3_knows_11 (fun H locs G => ?_)
    refine lv_if_eq (tgt := 21) hx hb dX3_knows_14 (by decide) (fun c_14 => ?_) (fun c_14 => ?_)
    · exact False.elim (b2i_0.mp c_14 (hk1))
    · skip
      refine lv_iconst (v := 0) hx hb dX3_knows_17 (by decide) ?_
      refine lv_goto (tgt := 22) hx hb dX3_knows_18 (by decide) ?_
      refine x_callVi (rest := []) B G (c_X3_holds l M V 0) (cwV 1 B.1.2.2.2.2 gX3_knows_X3_holds rfl rfl rfl (by decide +kernel) ⟨Nat.le_of_ble_eq_true rfl, Nat.le_of_ble_eq_true rfl⟩) (m_recv B G M) rfl hl.1 rfl (Nat.le_of_ble_eq_true rfl) ⟨Nat.zero_le _, Nat.zero_le _⟩ dX3_knows_22 (fun H locs G => ?_)
      refine lv_if_ne (tgt := 47) hx hb dX3_knows_25 (by decide) (fun c_25 => ?_) (fun c_25 => ?_)
      · exact False.elim (c_25 (by decide))
      · skip
        refine lv_aload_n hx hb dX3_knows_28 rfl (lv_at hl 0 rfl) ?_
        refine m_getA B G M hin 8 (by decide) (by decide +kernel) dX3_knows_29 ?_
        refine lv_bipush (v := 40) hx hb dX3_knows_32 (by decide) ?_
        refine lv_iload_n hx hb dX3_knows_34 rfl (lv_at hl 1 rfl) ?_
        refine lv_imul hx hb dX3_knows_35 ?_
        refine x_top (show 40 * (nI n) = nI (40 * n) from pk_mul 40 n) ?_
        refine lv_iload_n hx hb dX3_knows_36 rfl (lv_at hl 2 rfl) ?_
        refine lv_iadd hx hb dX3_knows_37 ?_
        refine x_top (show (nI (40 * n)) + (nI k) = nI ((40 * n) + k) from nI_add (40 * n) k) ?_
        refine m_ald B G M 8 (by decide) ((40 * n) + k) (show ((40 * n) + k) < 320 by omega) rfl dX3_knows_38 ?_
        refine lv_iconst (v := 1) hx hb dX3_knows_39 (by decide) ?_
        refine lv_icmp_ne (tgt := 47) hx hb dX3_knows_40 (by decide) (fun c_40 => ?_) (fun c_40 => ?_)
        · skip
          refine lv_iconst (v := 0) hx hb dX3_knows_47 (by decide) ?_
          exact x_zret B G (Or.inl rfl) ((b2i_f c_40).symm) (rfl) dX3_knows_48
        · skip
          refine lv_iconst (v := 1) hx hb dX3_knows_43 (by decide) ?_
          refine lv_goto (tgt := 48) hx hb dX3_knows_44 (by decide) ?_
          exact x_zret B G (Or.inr rfl) ((b2i_t c_40).symm) (rfl) dX3_knows_48
set_option maxHeartbeats 4000000 in
set_option maxRecDepth 100000 in
theorem c_X3_knows_bad (l : Launch) {D : va_G} {sh : xS} {ad : Nat → Nat} {cI : ClassId} {tys : List (ClassId × FieldType)} (M : xMm sh ad cI tys) (V : xV) (x y : Int32) (h : ¬ ((0 ≤ x ∧ x ≤ 7) ∧ (0 ≤ y ∧ y ≤ V 17 17 - 1))) : xMi l yX3_knows wsX3_knows (rmK 2) D sh ad tys V [.ref (ad 17), .int x, .int y] 0 (xu V 17 20 1) := by
  refine xOfi (cc := cX3_knows) (nL := 3) (ret := some .boolean) (own := RX3) (by decide) rfl rfl (Nat.le_of_ble_eq_true rfl) M.2.2 ?_
  intro p e s m args below meth c A ls B G hl
  have hx := B.1.1
  have hb := B.1.2.1
  have hin : ∀ w ∈ wsX30, w ∈ wsX3_knows := by decide +kernel
  have hl : lv_has ls 3 [(0, .ref (ad 17)), (1, .int x), (2, .int y)] := hl
  refine lv_aload_n hx hb dX3_knows_0 rfl (lv_at hl 0 rfl) ?_
  refine lv_aload_n hx hb dX3_knows_1 rfl (lv_at hl 0 rfl) ?_
  refine lv_iload_n hx hb dX3_knows_2 rfl (lv_at hl 1 rfl) ?_
  refine x_callVi (rest := [.ref (ad 17)]) B G (c_X3_isNode l M V x) (cwV 1 B.1.2.2.2.2 gX3_knows_X3_isNode rfl rfl rfl (by decide +kernel) ⟨Nat.le_of_ble_eq_true rfl, Nat.le_of_ble_eq_true rfl⟩) (m_recv B G M) rfl hl.1 rfl (Nat.le_of_ble_eq_true rfl) ⟨Nat.zero_le _, Nat.zero_le _⟩ dX3_knows_3 (fun H locs G => ?_)
  refine lv_if_eq (tgt := 21) hx hb dX3_knows_6 (by decide) (fun c_6 => ?_) (fun c_6 => ?_)
  · skip
    refine lv_iconst (v := 1) hx hb dX3_knows_21 (by decide) ?_
    refine x_callVi (rest := []) B G (c_X3_holds l M V 1) (cwV 1 B.1.2.2.2.2 gX3_knows_X3_holds rfl rfl rfl (by decide +kernel) ⟨Nat.le_of_ble_eq_true rfl, Nat.le_of_ble_eq_true rfl⟩) (m_recv B G M) rfl hl.1 rfl (Nat.le_of_ble_eq_true rfl) ⟨Nat.zero_le _, Nat.zero_le _⟩ dX3_knows_22 (fun H locs G => ?_)
    refine lv_if_ne (tgt := 47) hx hb dX3_knows_25 (by decide) (fun c_25 => ?_) (fun c_25 => ?_)
    · skip
      refine lv_iconst (v := 0) hx hb dX3_knows_47 (by decide) ?_
      exact x_zret B G (Or.inl rfl) (rfl) (rfl) dX3_knows_48
    · exact False.elim (absurd c_25 (by decide))
  · skip
    refine lv_aload_n hx hb dX3_knows_9 rfl (lv_at hl 0 rfl) ?_
    refine lv_iload_n hx hb dX3_knows_10 rfl (lv_at hl 2 rfl) ?_
    refine x_callVi (rest := [.ref (ad 17)]) B G (c_X3_isBundle l M V y) (cwV 1 B.1.2.2.2.2 gX3_knows_X3_isBundle rfl rfl rfl (by decide +kernel) ⟨Nat.le_of_ble_eq_true rfl, Nat.le_of_ble_eq_true rfl⟩) (m_recv B G M) rfl hl.1 rfl (Nat.le_of_ble_eq_true rfl) ⟨Nat.zero_le _, Nat.zero_le _⟩ dX3_knows_11 (fun H locs G => ?_)
    refine lv_if_eq (tgt := 21) hx hb dX3_knows_14 (by decide) (fun c_14 => ?_) (fun c_14 => ?_)
    · skip
      refine lv_iconst (v := 1) hx hb dX3_knows_21 (by decide) ?_
      refine x_callVi (rest := []) B G (c_X3_holds l M V 1) (cwV 1 B.1.2.2.2.2 gX3_knows_X3_holds rfl rfl rfl (by decide +kernel) ⟨Nat.le_of_ble_eq_true rfl, Nat.le_of_ble_eq_true rfl⟩) (m_recv B G M) rfl hl.1 rfl (Nat.le_of_ble_eq_true rfl) ⟨Nat.zero_le _, Nat.zero_le _⟩ dX3_knows_22 (fun H locs G => ?_)
      refine lv_if_ne (tgt := 47) hx hb dX3_knows_25 (by decide) (fun c_25 => ?_) (fun c_25 => ?_)
      · skip
        refine lv_iconst (v := 0) hx hb dX3_knows_47 (by decide) ?_
        exact x_zret B G (Or.inl rfl) (rfl) (rfl) dX3_knows_48
      · exact False.elim (absurd c_25 (by decide))
    · skip
      exact absurd ⟨b2i_1 c_6, b2i_1 c_14⟩ h
set_option maxHeartbeats 4000000 in
set_option maxRecDepth 100000 in
theorem c_X3_arrival_ok (l : Launch) {D : va_G} {sh : xS} {ad : Nat → Nat} {cI : ClassId} {tys : List (ClassId × FieldType)} (M : xMm sh ad cI tys) (V : xV) (n d nc : Nat) (hn : n < 8) (hd : d < 8) (hnc : V 17 18 = nI nc) (hc30 : nc ≤ 30) (hpl : mPl V nc) : xMi l yX3_arrival wsX3_arrival (rmK 2) D sh ad tys V [.ref (ad 17), .int (nI n), .int (nI d)] (mFin (xu V 17 20 0) n nc 15 d) (mFin (xu V 17 20 0) n nc) := by
  refine xOfi (cc := cX3_arrival) (nL := 3) (ret := some .int) (own := RX3) (by decide) rfl rfl (Nat.le_of_ble_eq_true rfl) M.2.2 ?_
  intro p e s m args below meth c A ls B G hl
  have hx := B.1.1
  have hb := B.1.2.1
  have hin : ∀ w ∈ wsX30, w ∈ wsX3_arrival := by decide +kernel
  have hl : lv_has ls 3 [(0, .ref (ad 17)), (1, .int (nI n)), (2, .int (nI d))] := hl
  refine lv_aload_n hx hb dX3_arrival_0 rfl (lv_at hl 0 rfl) ?_
  refine lv_aload_n hx hb dX3_arrival_1 rfl (lv_at hl 0 rfl) ?_
  refine lv_iload_n hx hb dX3_arrival_2 rfl (lv_at hl 1 rfl) ?_
  refine x_callVi (rest := [.ref (ad 17)]) B G (c_X3_isNode l M V (nI n)) (cwV 1 B.1.2.2.2.2 gX3_arrival_X3_isNode rfl rfl rfl (by decide +kernel) ⟨Nat.le_of_ble_eq_true rfl, Nat.le_of_ble_eq_true rfl⟩) (m_recv B G M) rfl hl.1 rfl (Nat.le_of_ble_eq_true rfl) ⟨Nat.zero_le _, Nat.zero_le _⟩ dX3_arrival_3 (fun H locs G => ?_)
  refine lv_if_eq (tgt := 21) hx hb dX3_arrival_6 (by decide) (fun c_6 => ?_) (fun c_6 => ?_)
  · exact False.elim (b2i_0.mp c_6 (nodeOK hn))
  · skip
    refine lv_aload_n hx hb dX3_arrival_9 rfl (lv_at hl 0 rfl) ?_
    refine lv_iload_n hx hb dX3_arrival_10 rfl (lv_at hl 2 rfl) ?_
    refine x_callVi (rest := [.ref (ad 17)]) B G (c_X3_isNode l M V (nI d)) (cwV 1 B.1.2.2.2.2 gX3_arrival_X3_isNode rfl rfl rfl (by decide +kernel) ⟨Nat.le_of_ble_eq_true rfl, Nat.le_of_ble_eq_true rfl⟩) (m_recv B G M) rfl hl.1 rfl (Nat.le_of_ble_eq_true rfl) ⟨Nat.zero_le _, Nat.zero_le _⟩ dX3_arrival_11 (fun H locs G => ?_)
    refine lv_if_eq (tgt := 21) hx hb dX3_arrival_14 (by decide) (fun c_14 => ?_) (fun c_14 => ?_)
    · exact False.elim (b2i_0.mp c_14 (nodeOK hd))
    · skip
      refine lv_iconst (v := 0) hx hb dX3_arrival_17 (by decide) ?_
      refine lv_goto (tgt := 22) hx hb dX3_arrival_18 (by decide) ?_
      refine x_callVi (rest := []) B G (c_X3_holds l M V 0) (cwV 1 B.1.2.2.2.2 gX3_arrival_X3_holds rfl rfl rfl (by decide +kernel) ⟨Nat.le_of_ble_eq_true rfl, Nat.le_of_ble_eq_true rfl⟩) (m_recv B G M) rfl hl.1 rfl (Nat.le_of_ble_eq_true rfl) ⟨Nat.zero_le _, Nat.zero_le _⟩ dX3_arrival_22 (fun H locs G => ?_)
      refine lv_if_eq (tgt := 32) hx hb dX3_arrival_25 (by decide) (fun c_25 => ?_) (fun c_25 => ?_)
      · skip
        refine lv_aload_n hx hb dX3_arrival_32 rfl (lv_at hl 0 rfl) ?_
        refine lv_iload_n hx hb dX3_arrival_33 rfl (lv_at hl 1 rfl) ?_
        refine lv_iload_n hx hb dX3_arrival_34 rfl (lv_at hl 2 rfl) ?_
        refine x_callVi (rest := []) B G (c_X3_reach l M (xu V 17 20 0) n d nc (by omega) (by omega) hnc hc30 hpl) (cwV 2 B.1.2.2.2.2 gX3_arrival_X3_reach rfl rfl rfl (by decide +kernel) ⟨Nat.le_of_ble_eq_true rfl, Nat.le_of_ble_eq_true rfl⟩) (m_recv B G M) rfl hl.1 rfl (Nat.le_of_ble_eq_true rfl) ⟨Nat.zero_le _, Nat.zero_le _⟩ dX3_arrival_35 (fun H locs G => ?_)
        exact x_iret B G (rfl) (rfl) dX3_arrival_38
      · exact False.elim (c_25 (by decide))
set_option maxHeartbeats 4000000 in
set_option maxRecDepth 100000 in
theorem c_X3_arrival_bad (l : Launch) {D : va_G} {sh : xS} {ad : Nat → Nat} {cI : ClassId} {tys : List (ClassId × FieldType)} (M : xMm sh ad cI tys) (V : xV) (x y : Int32) (h : ¬ ((0 ≤ x ∧ x ≤ 7) ∧ (0 ≤ y ∧ y ≤ 7))) : xMi l yX3_arrival wsX3_arrival (rmK 2) D sh ad tys V [.ref (ad 17), .int x, .int y] (-1) (xu V 17 20 1) := by
  refine xOfi (cc := cX3_arrival) (nL := 3) (ret := some .int) (own := RX3) (by decide) rfl rfl (Nat.le_of_ble_eq_true rfl) M.2.2 ?_
  intro p e s m args below meth c A ls B G hl
  have hx := B.1.1
  have hb := B.1.2.1
  have hin : ∀ w ∈ wsX30, w ∈ wsX3_arrival := by decide +kernel
  have hl : lv_has ls 3 [(0, .ref (ad 17)), (1, .int x), (2, .int y)] := hl
  refine lv_aload_n hx hb dX3_arrival_0 rfl (lv_at hl 0 rfl) ?_
  refine lv_aload_n hx hb dX3_arrival_1 rfl (lv_at hl 0 rfl) ?_
  refine lv_iload_n hx hb dX3_arrival_2 rfl (lv_at hl 1 rfl) ?_
  refine x_callVi (rest := [.ref (ad 17)]) B G (c_X3_isNode l M V x) (cwV 1 B.1.2.2.2.2 gX3_arrival_X3_isNode rfl rfl rfl (by decide +kernel) ⟨Nat.le_of_ble_eq_true rfl, Nat.le_of_ble_eq_true rfl⟩) (m_recv B G M) rfl hl.1 rfl (Nat.le_of_ble_eq_true rfl) ⟨Nat.zero_le _, Nat.zero_le _⟩ dX3_arrival_3 (fun H locs G => ?_)
  refine lv_if_eq (tgt := 21) hx hb dX3_arrival_6 (by decide) (fun c_6 => ?_) (fun c_6 => ?_)
  · skip
    refine lv_iconst (v := 1) hx hb dX3_arrival_21 (by decide) ?_
    refine x_callVi (rest := []) B G (c_X3_holds l M V 1) (cwV 1 B.1.2.2.2.2 gX3_arrival_X3_holds rfl rfl rfl (by decide +kernel) ⟨Nat.le_of_ble_eq_true rfl, Nat.le_of_ble_eq_true rfl⟩) (m_recv B G M) rfl hl.1 rfl (Nat.le_of_ble_eq_true rfl) ⟨Nat.zero_le _, Nat.zero_le _⟩ dX3_arrival_22 (fun H locs G => ?_)
    refine lv_if_eq (tgt := 32) hx hb dX3_arrival_25 (by decide) (fun c_25 => ?_) (fun c_25 => ?_)
    · exact False.elim (absurd c_25 (by decide))
    · skip
      refine lv_iconst (v := (-1)) hx hb dX3_arrival_28 (by decide) ?_
      refine lv_goto (tgt := 38) hx hb dX3_arrival_29 (by decide) ?_
      exact x_iret B G (rfl) (rfl) dX3_arrival_38
  · skip
    refine lv_aload_n hx hb dX3_arrival_9 rfl (lv_at hl 0 rfl) ?_
    refine lv_iload_n hx hb dX3_arrival_10 rfl (lv_at hl 2 rfl) ?_
    refine x_callVi (rest := [.ref (ad 17)]) B G (c_X3_isNode l M V y) (cwV 1 B.1.2.2.2.2 gX3_arrival_X3_isNode rfl rfl rfl (by decide +kernel) ⟨Nat.le_of_ble_eq_true rfl, Nat.le_of_ble_eq_true rfl⟩) (m_recv B G M) rfl hl.1 rfl (Nat.le_of_ble_eq_true rfl) ⟨Nat.zero_le _, Nat.zero_le _⟩ dX3_arrival_11 (fun H locs G => ?_)
    refine lv_if_eq (tgt := 21) hx hb dX3_arrival_14 (by decide) (fun c_14 => ?_) (fun c_14 => ?_)
    · skip
      refine lv_iconst (v := 1) hx hb dX3_arrival_21 (by decide) ?_
      refine x_callVi (rest := []) B G (c_X3_holds l M V 1) (cwV 1 B.1.2.2.2.2 gX3_arrival_X3_holds rfl rfl rfl (by decide +kernel) ⟨Nat.le_of_ble_eq_true rfl, Nat.le_of_ble_eq_true rfl⟩) (m_recv B G M) rfl hl.1 rfl (Nat.le_of_ble_eq_true rfl) ⟨Nat.zero_le _, Nat.zero_le _⟩ dX3_arrival_22 (fun H locs G => ?_)
      refine lv_if_eq (tgt := 32) hx hb dX3_arrival_25 (by decide) (fun c_25 => ?_) (fun c_25 => ?_)
      · exact False.elim (absurd c_25 (by decide))
      · skip
        refine lv_iconst (v := (-1)) hx hb dX3_arrival_28 (by decide) ?_
        refine lv_goto (tgt := 38) hx hb dX3_arrival_29 (by decide) ?_
        exact x_iret B G (rfl) (rfl) dX3_arrival_38
    · skip
      exact absurd ⟨b2i_1 c_6, b2i_1 c_14⟩ h
set_option maxHeartbeats 4000000 in
set_option maxRecDepth 100000 in
theorem c_X3_arrivalByRounds_bad (l : Launch) {D : va_G} {sh : xS} {ad : Nat → Nat} {cI : ClassId} {tys : List (ClassId × FieldType)} (M : xMm sh ad cI tys) (V : xV) (x y : Int32) (h : ¬ ((0 ≤ x ∧ x ≤ 7) ∧ (0 ≤ y ∧ y ≤ 7))) : xMi l yX3_arrivalByRounds wsX3_arrivalByRounds (rmK 2) D sh ad tys V [.ref (ad 17), .int x, .int y] (-1) (xu V 17 20 1) := by
  refine xOfi (cc := cX3_arrivalByRounds) (nL := 7) (ret := some .int) (own := RX3) (by decide) rfl rfl (Nat.le_of_ble_eq_true rfl) M.2.2 ?_
  intro p e s m args below meth c A ls B G hl
  have hx := B.1.1
  have hb := B.1.2.1
  have hin : ∀ w ∈ wsX30, w ∈ wsX3_arrivalByRounds := by decide +kernel
  have hl : lv_has ls 7 [(0, .ref (ad 17)), (1, .int x), (2, .int y)] := hl
  refine lv_aload_n hx hb dX3_arrivalByRounds_0 rfl (lv_at hl 0 rfl) ?_
  refine lv_aload_n hx hb dX3_arrivalByRounds_1 rfl (lv_at hl 0 rfl) ?_
  refine lv_iload_n hx hb dX3_arrivalByRounds_2 rfl (lv_at hl 1 rfl) ?_
  refine x_callVi (rest := [.ref (ad 17)]) B G (c_X3_isNode l M V x) (cwV 1 B.1.2.2.2.2 gX3_arrivalByRounds_X3_isNode rfl rfl rfl (by decide +kernel) ⟨Nat.le_of_ble_eq_true rfl, Nat.le_of_ble_eq_true rfl⟩) (m_recv B G M) rfl hl.1 rfl (Nat.le_of_ble_eq_true rfl) ⟨Nat.zero_le _, Nat.zero_le _⟩ dX3_arrivalByRounds_3 (fun H locs G => ?_)
  refine lv_if_eq (tgt := 21) hx hb dX3_arrivalByRounds_6 (by decide) (fun c_6 => ?_) (fun c_6 => ?_)
  · skip
    refine lv_iconst (v := 1) hx hb dX3_arrivalByRounds_21 (by decide) ?_
    refine x_callVi (rest := []) B G (c_X3_holds l M V 1) (cwV 1 B.1.2.2.2.2 gX3_arrivalByRounds_X3_holds rfl rfl rfl (by decide +kernel) ⟨Nat.le_of_ble_eq_true rfl, Nat.le_of_ble_eq_true rfl⟩) (m_recv B G M) rfl hl.1 rfl (Nat.le_of_ble_eq_true rfl) ⟨Nat.zero_le _, Nat.zero_le _⟩ dX3_arrivalByRounds_22 (fun H locs G => ?_)
    refine lv_if_eq (tgt := 30) hx hb dX3_arrivalByRounds_25 (by decide) (fun c_25 => ?_) (fun c_25 => ?_)
    · exact False.elim (absurd c_25 (by decide))
    · skip
      refine lv_iconst (v := (-1)) hx hb dX3_arrivalByRounds_28 (by decide) ?_
      exact x_iret B G (rfl) (rfl) dX3_arrivalByRounds_29
  · skip
    refine lv_aload_n hx hb dX3_arrivalByRounds_9 rfl (lv_at hl 0 rfl) ?_
    refine lv_iload_n hx hb dX3_arrivalByRounds_10 rfl (lv_at hl 2 rfl) ?_
    refine x_callVi (rest := [.ref (ad 17)]) B G (c_X3_isNode l M V y) (cwV 1 B.1.2.2.2.2 gX3_arrivalByRounds_X3_isNode rfl rfl rfl (by decide +kernel) ⟨Nat.le_of_ble_eq_true rfl, Nat.le_of_ble_eq_true rfl⟩) (m_recv B G M) rfl hl.1 rfl (Nat.le_of_ble_eq_true rfl) ⟨Nat.zero_le _, Nat.zero_le _⟩ dX3_arrivalByRounds_11 (fun H locs G => ?_)
    refine lv_if_eq (tgt := 21) hx hb dX3_arrivalByRounds_14 (by decide) (fun c_14 => ?_) (fun c_14 => ?_)
    · skip
      refine lv_iconst (v := 1) hx hb dX3_arrivalByRounds_21 (by decide) ?_
      refine x_callVi (rest := []) B G (c_X3_holds l M V 1) (cwV 1 B.1.2.2.2.2 gX3_arrivalByRounds_X3_holds rfl rfl rfl (by decide +kernel) ⟨Nat.le_of_ble_eq_true rfl, Nat.le_of_ble_eq_true rfl⟩) (m_recv B G M) rfl hl.1 rfl (Nat.le_of_ble_eq_true rfl) ⟨Nat.zero_le _, Nat.zero_le _⟩ dX3_arrivalByRounds_22 (fun H locs G => ?_)
      refine lv_if_eq (tgt := 30) hx hb dX3_arrivalByRounds_25 (by decide) (fun c_25 => ?_) (fun c_25 => ?_)
      · exact False.elim (absurd c_25 (by decide))
      · skip
        refine lv_iconst (v := (-1)) hx hb dX3_arrivalByRounds_28 (by decide) ?_
        exact x_iret B G (rfl) (rfl) dX3_arrivalByRounds_29
    · skip
      exact absurd ⟨b2i_1 c_6, b2i_1 c_14⟩ h
/-- one contact, both ways -/
def mRel (W : xV) (u v k : Nat) : xV :=
  (fun W1 : xV => if W1 15 v < 0 then W1 else mImp W1 u (mUse W1 k (W1 15 v))) (if W 15 u < 0 then W else mImp W v (mUse W k (W 15 u)))
theorem mRel_o (W : xV) (u v k : Nat) {i : Nat} (h : i ≠ 15) : mRel W u v k i = W i := by
  have h1 : ∀ (W : xV) (a b : Nat), (if W 15 a < 0 then W else mImp W b (mUse W k (W 15 a))) i = W i := by
    intro W a b
    split
    · rfl
    · rw [mImp_o _ _ _ h]
  exact (h1 _ v u).trans (h1 W u v)
def mRow (V : xV) : Nat → xV
  | 0 => V
  | k + 1 => mRel (mRow V k) (mOne V k) (mTwo V k) k
theorem mRow_o (V : xV) (k : Nat) {i : Nat} (h : i ≠ 15) : mRow V k i = V i := by
  induction k with
  | zero => rfl
  | succ k ih => unfold mRow; rw [mRel_o _ _ _ _ h, ih]
def mRnd (V : xV) (nc : Nat) : Nat → xV
  | 0 => V
  | r + 1 => mRow (mRnd V nc r) nc
theorem mRnd_o (V : xV) (nc r : Nat) {i : Nat} (h : i ≠ 15) : mRnd V nc r i = V i := by
  induction r with
  | zero => rfl
  | succ r ih => unfold mRnd; rw [mRow_o _ _ h, ih]
set_option maxHeartbeats 4000000 in
set_option maxRecDepth 100000 in
theorem c_X3_arrivalByRounds_ok (l : Launch) {D : va_G} {sh : xS} {ad : Nat → Nat} {cI : ClassId} {tys : List (ClassId × FieldType)} (M : xMm sh ad cI tys) (V : xV) (n d nc : Nat) (hn : n < 8) (hd : d < 8) (hnc : V 17 18 = nI nc) (hc30 : nc ≤ 30) (hpl : mPl V nc) : xMi l yX3_arrivalByRounds wsX3_arrivalByRounds (rmK 2) D sh ad tys V [.ref (ad 17), .int (nI n), .int (nI d)] (mRnd (mBeg (xu V 17 20 0) n 8) nc 8 15 d) (mRnd (mBeg (xu V 17 20 0) n 8) nc 8) := by
  refine xOfi (cc := cX3_arrivalByRounds) (nL := 7) (ret := some .int) (own := RX3) (by decide) rfl rfl (Nat.le_of_ble_eq_true rfl) M.2.2 ?_
  intro p e s m args below meth c A ls B G hl
  have hx := B.1.1
  have hb := B.1.2.1
  have hin : ∀ w ∈ wsX30, w ∈ wsX3_arrivalByRounds := by decide +kernel
  have hl : lv_has ls 7 [(0, .ref (ad 17)), (1, .int (nI n)), (2, .int (nI d))] := hl
  refine lv_aload_n hx hb dX3_arrivalByRounds_0 rfl (lv_at hl 0 rfl) ?_
  refine lv_aload_n hx hb dX3_arrivalByRounds_1 rfl (lv_at hl 0 rfl) ?_
  refine lv_iload_n hx hb dX3_arrivalByRounds_2 rfl (lv_at hl 1 rfl) ?_
  refine x_callVi (rest := [.ref (ad 17)]) B G (c_X3_isNode l M V (nI n)) (cwV 1 B.1.2.2.2.2 gX3_arrivalByRounds_X3_isNode rfl rfl rfl (by decide +kernel) ⟨Nat.le_of_ble_eq_true rfl, Nat.le_of_ble_eq_true rfl⟩) (m_recv B G M) rfl hl.1 rfl (Nat.le_of_ble_eq_true rfl) ⟨Nat.zero_le _, Nat.zero_le _⟩ dX3_arrivalByRounds_3 (fun H locs G => ?_)
  refine lv_if_eq (tgt := 21) hx hb dX3_arrivalByRounds_6 (by decide) (fun c_6 => ?_) (fun c_6 => ?_)
  · exact False.elim (b2i_0.mp c_6 (nodeOK hn))
  · skip
    refine lv_aload_n hx hb dX3_arrivalByRounds_9 rfl (lv_at hl 0 rfl) ?_
    refine lv_iload_n hx hb dX3_arrivalByRounds_10 rfl (lv_at hl 2 rfl) ?_
    refine x_callVi (rest := [.ref (ad 17)]) B G (c_X3_isNode l M V (nI d)) (cwV 1 B.1.2.2.2.2 gX3_arrivalByRounds_X3_isNode rfl rfl rfl (by decide +kernel) ⟨Nat.le_of_ble_eq_true rfl, Nat.le_of_ble_eq_true rfl⟩) (m_recv B G M) rfl hl.1 rfl (Nat.le_of_ble_eq_true rfl) ⟨Nat.zero_le _, Nat.zero_le _⟩ dX3_arrivalByRounds_11 (fun H locs G => ?_)
    refine lv_if_eq (tgt := 21) hx hb dX3_arrivalByRounds_14 (by decide) (fun c_14 => ?_) (fun c_14 => ?_)
    · exact False.elim (b2i_0.mp c_14 (nodeOK hd))
    · skip
      refine lv_iconst (v := 0) hx hb dX3_arrivalByRounds_17 (by decide) ?_
      refine lv_goto (tgt := 22) hx hb dX3_arrivalByRounds_18 (by decide) ?_
      refine x_callVi (rest := []) B G (c_X3_holds l M V 0) (cwV 1 B.1.2.2.2.2 gX3_arrivalByRounds_X3_holds rfl rfl rfl (by decide +kernel) ⟨Nat.le_of_ble_eq_true rfl, Nat.le_of_ble_eq_true rfl⟩) (m_recv B G M) rfl hl.1 rfl (Nat.le_of_ble_eq_true rfl) ⟨Nat.zero_le _, Nat.zero_le _⟩ dX3_arrivalByRounds_22 (fun H locs G => ?_)
      refine lv_if_eq (tgt := 30) hx hb dX3_arrivalByRounds_25 (by decide) (fun c_25 => ?_) (fun c_25 => ?_)
      · skip
        refine lv_aload_n hx hb dX3_arrivalByRounds_30 rfl (lv_at hl 0 rfl) ?_
        refine lv_iload_n hx hb dX3_arrivalByRounds_31 rfl (lv_at hl 1 rfl) ?_
        refine x_callVv (rest := []) B G (c_X3_begin l M (xu V 17 20 0) n hn) (cwV 1 B.1.2.2.2.2 gX3_arrivalByRounds_X3_begin rfl rfl rfl (by decide +kernel) ⟨Nat.le_of_ble_eq_true rfl, Nat.le_of_ble_eq_true rfl⟩) (m_recv B G M) rfl hl.1 rfl (Nat.le_of_ble_eq_true rfl) ⟨Nat.zero_le _, Nat.zero_le _⟩ dX3_arrivalByRounds_32 (fun H locs G => ?_)
        refine lv_iconst (v := 0) hx hb dX3_arrivalByRounds_35 (by decide) ?_
        refine lv_istore_n (lv' := [(3, .int 0), (0, .ref (ad 17)), (1, .int (nI n)), (2, .int (nI d))]) hx hb dX3_arrivalByRounds_36 rfl hl (by decide) rfl (fun ls hl => ?_)
        have loop_37 : ∀ (f r : Nat), r ≤ 8 → 8 < r + f → ∀ (H : Heap) (locs : List Loc) (ls : Array Slot), xG D sh ad A s.heap (mRnd (mBeg (xu V 17 20 0) n 8) nc r) H locs → lv_has ls 7 [(0, .ref (ad 17)), (1, .int (nI n)), (2, .int (nI d)), (3, .int (nI r))] → W p l e (rmK 2) s m args below meth c H locs 0 0 (xQi below D sh ad tys A args s (mRnd (mBeg (xu V 17 20 0) n 8) nc 8 15 d) (mRnd (mBeg (xu V 17 20 0) n 8) nc 8)) (F0 m 37 ls []) := by
          intro f
          induction f with
          | zero => intro r h1 h2; exact absurd h2 (by omega)
          | succ f ih_37 =>
            intro r hi hf H locs ls G hl
            refine lv_iload_n hx hb dX3_arrivalByRounds_37 rfl (lv_at hl 3 rfl) ?_
            refine lv_bipush (v := 8) hx hb dX3_arrivalByRounds_38 (by decide) ?_
            refine lv_icmp_ge (tgt := 149) hx hb dX3_arrivalByRounds_40 (by decide) (fun c_40 => ?_) (fun c_40 => ?_)
            · skip
              have c_40 : 8 ≤ r := (nI_leI (a := 8) (b := r) (by omega) (by omega)).mp c_40
              refine lv_aload_n hx hb dX3_arrivalByRounds_149 rfl (lv_at hl 0 rfl) ?_
              refine m_getA B G M hin 15 (by decide) (by decide +kernel) dX3_arrivalByRounds_150 ?_
              refine lv_iload_n hx hb dX3_arrivalByRounds_153 rfl (lv_at hl 2 rfl) ?_
              refine m_ald B G M 15 (by decide) d (show d < 8 by omega) rfl dX3_arrivalByRounds_154 ?_
              exact x_iret B G (by rw [show r = 8 by omega]) (by rw [show r = 8 by omega]) dX3_arrivalByRounds_155
            · skip
              have c_40 : ¬ (8 ≤ r) := fun h9 => c_40 ((nI_leI (a := 8) (b := r) (by omega) (by omega)).mpr h9)
              have plX : mPl (mRnd (mBeg (xu V 17 20 0) n 8) nc r) nc := hpl.eq (by rw [mRnd_o _ _ _ (by decide), mBeg_o _ _ _ (by decide) (by decide)]; exact xu_ne _ _ _ (by decide))
              have ncX : (mRnd (mBeg (xu V 17 20 0) n 8) nc r) 17 18 = nI nc := by rw [mRnd_o _ _ _ (by decide), mBeg_o _ _ _ (by decide) (by decide)]; exact hnc
              refine lv_iconst (v := 0) hx hb dX3_arrivalByRounds_43 (by decide) ?_
              refine lv_istore (lv' := [(4, .int 0), (0, .ref (ad 17)), (1, .int (nI n)), (2, .int (nI d)), (3, .int (nI r))]) hx hb dX3_arrivalByRounds_44 hl (by decide) rfl (fun ls hl => ?_)
              have loop_46 : ∀ (f i : Nat), i ≤ nc → nc < i + f → ∀ (H : Heap) (locs : List Loc) (ls : Array Slot), xG D sh ad A s.heap (mRow (mRnd (mBeg (xu V 17 20 0) n 8) nc r) i) H locs → lv_has ls 7 [(0, .ref (ad 17)), (1, .int (nI n)), (2, .int (nI d)), (3, .int (nI r)), (4, .int (nI i))] → W p l e (rmK 2) s m args below meth c H locs 0 0 (xQi below D sh ad tys A args s (mRnd (mBeg (xu V 17 20 0) n 8) nc 8 15 d) (mRnd (mBeg (xu V 17 20 0) n 8) nc 8)) (F0 m 46 ls []) := by
                intro f
                induction f with
                | zero => intro i h1 h2; exact absurd h2 (by omega)
                | succ f ih_46 =>
                  intro i hi hf H locs ls G hl
                  refine lv_iload hx hb dX3_arrivalByRounds_46 (lv_at hl 4 rfl) ?_
                  refine lv_aload_n hx hb dX3_arrivalByRounds_48 rfl (lv_at hl 0 rfl) ?_
                  refine m_getI B G M hin 18 (by decide) (by decide +kernel) dX3_arrivalByRounds_49 ?_
                  refine x_top (show _ = nI nc from (by rw [mRow_o _ _ (by decide)]; exact ncX)) ?_
                  refine lv_icmp_ge (tgt := 143) hx hb dX3_arrivalByRounds_52 (by decide) (fun c_52 => ?_) (fun c_52 => ?_)
                  · skip
                    have c_52 : nc ≤ i := (nI_leI (a := nc) (b := i) (by omega) (by omega)).mp c_52
                    have e_i : i = nc := by omega
                    rw [e_i] at G hl
                    refine lv_iinc (v := nI (r + 1)) (lv' := [(3, .int (nI (r + 1))), (0, .ref (ad 17)), (1, .int (nI n)), (2, .int (nI d)), (4, .int (nI nc))]) hx hb dX3_arrivalByRounds_143 hl (k := 3) rfl (nI_add r 1) (by decide) rfl (fun ls hl => ?_)
                    refine lv_goto (tgt := 37) hx hb dX3_arrivalByRounds_146 (by decide) ?_
                    have hl := lv_sub (l' := [(0, .ref (ad 17)), (1, .int (nI n)), (2, .int (nI d)), (3, .int (nI (r + 1)))]) hl [1, 2, 3, 0] rfl
                    have eV : mRow (mRnd (mBeg (xu V 17 20 0) n 8) nc r) nc = mRnd (mBeg (xu V 17 20 0) n 8) nc (r + 1) := rfl
                    rw [eV] at G
                    exact ih_37 (r + 1) (by omega) (by omega) _ _ _ G hl
                  · skip
                    have c_52 : ¬ (nc ≤ i) := fun h9 => c_52 ((nI_leI (a := nc) (b := i) (by omega) (by omega)).mpr h9)
                    obtain ⟨e_1, l_1, e_2, l_2⟩ := plX i (by omega)
                    refine lv_aload_n hx hb dX3_arrivalByRounds_55 rfl (lv_at hl 0 rfl) ?_
                    refine m_getA B G M hin 12 (by decide) (by decide +kernel) dX3_arrivalByRounds_56 ?_
                    refine lv_iconst (v := 4) hx hb dX3_arrivalByRounds_59 (by decide) ?_
                    refine lv_iload hx hb dX3_arrivalByRounds_60 (lv_at hl 4 rfl) ?_
                    refine lv_imul hx hb dX3_arrivalByRounds_62 ?_
                    refine x_top (show 4 * (nI i) = nI (4 * i) from pk_mul 4 i) ?_
                    refine m_ald B G M 12 (by decide) (4 * i) (show (4 * i) < 120 by omega) rfl dX3_arrivalByRounds_63 ?_
                    refine x_top (show _ = nI (mOne (mRnd (mBeg (xu V 17 20 0) n 8) nc r) i) from (by rw [mRow_o _ _ (by decide)]; exact e_1)) ?_
                    refine lv_istore (lv' := [(5, .int (nI (mOne (mRnd (mBeg (xu V 17 20 0) n 8) nc r) i))), (0, .ref (ad 17)), (1, .int (nI n)), (2, .int (nI d)), (3, .int (nI r)), (4, .int (nI i))]) hx hb dX3_arrivalByRounds_64 hl (by decide) rfl (fun ls hl => ?_)
                    refine lv_aload_n hx hb dX3_arrivalByRounds_66 rfl (lv_at hl 1 rfl) ?_
                    refine m_getA B G M hin 12 (by decide) (by decide +kernel) dX3_arrivalByRounds_67 ?_
                    refine lv_iconst (v := 4) hx hb dX3_arrivalByRounds_70 (by decide) ?_
                    refine lv_iload hx hb dX3_arrivalByRounds_71 (lv_at hl 5 rfl) ?_
                    refine lv_imul hx hb dX3_arrivalByRounds_73 ?_
                    refine x_top (show 4 * (nI i) = nI (4 * i) from pk_mul 4 i) ?_
                    refine lv_iconst (v := 1) hx hb dX3_arrivalByRounds_74 (by decide) ?_
                    refine lv_iadd hx hb dX3_arrivalByRounds_75 ?_
                    refine x_top (show (nI (4 * i)) + 1 = nI ((4 * i) + 1) from nI_add (4 * i) 1) ?_
                    refine m_ald B G M 12 (by decide) ((4 * i) + 1) (show ((4 * i) + 1) < 120 by omega) rfl dX3_arrivalByRounds_76 ?_
                    refine x_top (show _ = nI (mTwo (mRnd (mBeg (xu V 17 20 0) n 8) nc r) i) from (by rw [mRow_o _ _ (by decide)]; exact e_2)) ?_
                    refine lv_istore (lv' := [(6, .int (nI (mTwo (mRnd (mBeg (xu V 17 20 0) n 8) nc r) i))), (5, .int (nI (mOne (mRnd (mBeg (xu V 17 20 0) n 8) nc r) i))), (0, .ref (ad 17)), (1, .int (nI n)), (2, .int (nI d)), (3, .int (nI r)), (4, .int (nI i))]) hx hb dX3_arrivalByRounds_77 hl (by decide) rfl (fun ls hl => ?_)
                    refine lv_aload_n hx hb dX3_arrivalByRounds_79 rfl (lv_at hl 2 rfl) ?_
                    refine m_getA B G M hin 15 (by decide) (by decide +kernel) dX3_arrivalByRounds_80 ?_
                    refine lv_iload hx hb dX3_arrivalByRounds_83 (lv_at hl 1 rfl) ?_
                    refine m_ald B G M 15 (by decide) (mOne (mRnd (mBeg (xu V 17 20 0) n 8) nc r) i) (show (mOne (mRnd (mBeg (xu V 17 20 0) n 8) nc r) i) < 8 by omega) rfl dX3_arrivalByRounds_85 ?_
                    refine lv_if_lt (tgt := 108) hx hb dX3_arrivalByRounds_86 (by decide) (fun c_86 => ?_) (fun c_86 => ?_)
                    · skip
                      refine lv_aload_n hx hb dX3_arrivalByRounds_108 rfl (lv_at hl 2 rfl) ?_
                      refine m_getA B G M hin 15 (by decide) (by decide +kernel) dX3_arrivalByRounds_109 ?_
                      refine lv_iload hx hb dX3_arrivalByRounds_112 (lv_at hl 0 rfl) ?_
                      refine m_ald B G M 15 (by decide) (mTwo (mRnd (mBeg (xu V 17 20 0) n 8) nc r) i) (show (mTwo (mRnd (mBeg (xu V 17 20 0) n 8) nc r) i) < 8 by omega) rfl dX3_arrivalByRounds_114 ?_
                      refine lv_if_lt (tgt := 137) hx hb dX3_arrivalByRounds_115 (by decide) (fun c_115 => ?_) (fun c_115 => ?_)
                      · skip
                        refine lv_iinc (v := nI (i + 1)) (lv' := [(4, .int (nI (i + 1))), (6, .int (nI (mTwo (mRnd (mBeg (xu V 17 20 0) n 8) nc r) i))), (5, .int (nI (mOne (mRnd (mBeg (xu V 17 20 0) n 8) nc r) i))), (0, .ref (ad 17)), (1, .int (nI n)), (2, .int (nI d)), (3, .int (nI r))]) hx hb dX3_arrivalByRounds_137 hl (k := 6) rfl (nI_add i 1) (by decide) rfl (fun ls hl => ?_)
                        refine lv_goto (tgt := 46) hx hb dX3_arrivalByRounds_140 (by decide) ?_
                        have hl := lv_sub (l' := [(0, .ref (ad 17)), (1, .int (nI n)), (2, .int (nI d)), (3, .int (nI r)), (4, .int (nI (i + 1)))]) hl [3, 4, 5, 6, 0] rfl
                        have eV : mRow (mRnd (mBeg (xu V 17 20 0) n 8) nc r) i = mRow (mRnd (mBeg (xu V 17 20 0) n 8) nc r) (i + 1) := (by show _ = mRel _ _ _ _; unfold mRel; rw [if_pos c_86]; exact (if_pos c_115).symm)
                        rw [eV] at G
                        exact ih_46 (i + 1) (by omega) (by omega) _ _ _ G hl
                      · skip
                        refine lv_aload_n hx hb dX3_arrivalByRounds_118 rfl (lv_at hl 2 rfl) ?_
                        refine lv_iload hx hb dX3_arrivalByRounds_119 (lv_at hl 1 rfl) ?_
                        refine lv_aload_n hx hb dX3_arrivalByRounds_121 rfl (lv_at hl 2 rfl) ?_
                        refine lv_iload hx hb dX3_arrivalByRounds_122 (lv_at hl 6 rfl) ?_
                        refine lv_aload_n hx hb dX3_arrivalByRounds_124 rfl (lv_at hl 2 rfl) ?_
                        refine m_getA B G M hin 15 (by decide) (by decide +kernel) dX3_arrivalByRounds_125 ?_
                        refine lv_iload hx hb dX3_arrivalByRounds_128 (lv_at hl 0 rfl) ?_
                        refine m_ald B G M 15 (by decide) (mTwo (mRnd (mBeg (xu V 17 20 0) n 8) nc r) i) (show (mTwo (mRnd (mBeg (xu V 17 20 0) n 8) nc r) i) < 8 by omega) rfl dX3_arrivalByRounds_130 ?_
                        refine x_callVi (rest := [.int (nI (mOne (mRnd (mBeg (xu V 17 20 0) n 8) nc r) i)), .ref (ad 17)]) B G (c_X3_use l M (mRow (mRnd (mBeg (xu V 17 20 0) n 8) nc r) i) i ((mRow (mRnd (mBeg (xu V 17 20 0) n 8) nc r) i) 15 (mTwo (mRnd (mBeg (xu V 17 20 0) n 8) nc r) i)) (by omega)) (cwV 2 B.1.2.2.2.2 gX3_arrivalByRounds_X3_use rfl rfl rfl (by decide +kernel) ⟨Nat.le_of_ble_eq_true rfl, Nat.le_of_ble_eq_true rfl⟩) (m_recv B G M) rfl hl.1 rfl (Nat.le_of_ble_eq_true rfl) ⟨Nat.zero_le _, Nat.zero_le _⟩ dX3_arrivalByRounds_131 (fun H locs G => ?_)
                        refine x_callVv (rest := []) B G (c_X3_improve l M (mRow (mRnd (mBeg (xu V 17 20 0) n 8) nc r) i) (mOne (mRnd (mBeg (xu V 17 20 0) n 8) nc r) i) (mUse (mRow (mRnd (mBeg (xu V 17 20 0) n 8) nc r) i) i ((mRow (mRnd (mBeg (xu V 17 20 0) n 8) nc r) i) 15 (mTwo (mRnd (mBeg (xu V 17 20 0) n 8) nc r) i))) (by omega)) (cwV 2 B.1.2.2.2.2 gX3_arrivalByRounds_X3_improve rfl rfl rfl (by decide +kernel) ⟨Nat.le_of_ble_eq_true rfl, Nat.le_of_ble_eq_true rfl⟩) (m_recv B G M) rfl hl.1 rfl (Nat.le_of_ble_eq_true rfl) ⟨Nat.zero_le _, Nat.zero_le _⟩ dX3_arrivalByRounds_134 (fun H locs G => ?_)
                        refine lv_iinc (v := nI (i + 1)) (lv' := [(4, .int (nI (i + 1))), (6, .int (nI (mTwo (mRnd (mBeg (xu V 17 20 0) n 8) nc r) i))), (5, .int (nI (mOne (mRnd (mBeg (xu V 17 20 0) n 8) nc r) i))), (0, .ref (ad 17)), (1, .int (nI n)), (2, .int (nI d)), (3, .int (nI r))]) hx hb dX3_arrivalByRounds_137 hl (k := 6) rfl (nI_add i 1) (by decide) rfl (fun ls hl => ?_)
                        refine lv_goto (tgt := 46) hx hb dX3_arrivalByRounds_140 (by decide) ?_
                        have hl := lv_sub (l' := [(0, .ref (ad 17)), (1, .int (nI n)), (2, .int (nI d)), (3, .int (nI r)), (4, .int (nI (i + 1)))]) hl [3, 4, 5, 6, 0] rfl
                        have eV : mImp (mRow (mRnd (mBeg (xu V 17 20 0) n 8) nc r) i) (mOne (mRnd (mBeg (xu V 17 20 0) n 8) nc r) i) (mUse (mRow (mRnd (mBeg (xu V 17 20 0) n 8) nc r) i) i ((mRow (mRnd (mBeg (xu V 17 20 0) n 8) nc r) i) 15 (mTwo (mRnd (mBeg (xu V 17 20 0) n 8) nc r) i))) = mRow (mRnd (mBeg (xu V 17 20 0) n 8) nc r) (i + 1) := (by show _ = mRel _ _ _ _; unfold mRel; rw [if_pos c_86]; exact (if_neg c_115).symm)
                        rw [eV] at G
                        exact ih_46 (i + 1) (by omega) (by omega) _ _ _ G hl
                    · skip
                      refine lv_aload_n hx hb dX3_arrivalByRounds_89 rfl (lv_at hl 2 rfl) ?_
                      refine lv_iload hx hb dX3_arrivalByRounds_90 (lv_at hl 0 rfl) ?_
                      refine lv_aload_n hx hb dX3_arrivalByRounds_92 rfl (lv_at hl 2 rfl) ?_
                      refine lv_iload hx hb dX3_arrivalByRounds_93 (lv_at hl 6 rfl) ?_
                      refine lv_aload_n hx hb dX3_arrivalByRounds_95 rfl (lv_at hl 2 rfl) ?_
                      refine m_getA B G M hin 15 (by decide) (by decide +kernel) dX3_arrivalByRounds_96 ?_
                      refine lv_iload hx hb dX3_arrivalByRounds_99 (lv_at hl 1 rfl) ?_
                      refine m_ald B G M 15 (by decide) (mOne (mRnd (mBeg (xu V 17 20 0) n 8) nc r) i) (show (mOne (mRnd (mBeg (xu V 17 20 0) n 8) nc r) i) < 8 by omega) rfl dX3_arrivalByRounds_101 ?_
                      refine x_callVi (rest := [.int (nI (mTwo (mRnd (mBeg (xu V 17 20 0) n 8) nc r) i)), .ref (ad 17)]) B G (c_X3_use l M (mRow (mRnd (mBeg (xu V 17 20 0) n 8) nc r) i) i ((mRow (mRnd (mBeg (xu V 17 20 0) n 8) nc r) i) 15 (mOne (mRnd (mBeg (xu V 17 20 0) n 8) nc r) i)) (by omega)) (cwV 2 B.1.2.2.2.2 gX3_arrivalByRounds_X3_use rfl rfl rfl (by decide +kernel) ⟨Nat.le_of_ble_eq_true rfl, Nat.le_of_ble_eq_true rfl⟩) (m_recv B G M) rfl hl.1 rfl (Nat.le_of_ble_eq_true rfl) ⟨Nat.zero_le _, Nat.zero_le _⟩ dX3_arrivalByRounds_102 (fun H locs G => ?_)
                      refine x_callVv (rest := []) B G (c_X3_improve l M (mRow (mRnd (mBeg (xu V 17 20 0) n 8) nc r) i) (mTwo (mRnd (mBeg (xu V 17 20 0) n 8) nc r) i) (mUse (mRow (mRnd (mBeg (xu V 17 20 0) n 8) nc r) i) i ((mRow (mRnd (mBeg (xu V 17 20 0) n 8) nc r) i) 15 (mOne (mRnd (mBeg (xu V 17 20 0) n 8) nc r) i))) (by omega)) (cwV 2 B.1.2.2.2.2 gX3_arrivalByRounds_X3_improve rfl rfl rfl (by decide +kernel) ⟨Nat.le_of_ble_eq_true rfl, Nat.le_of_ble_eq_true rfl⟩) (m_recv B G M) rfl hl.1 rfl (Nat.le_of_ble_eq_true rfl) ⟨Nat.zero_le _, Nat.zero_le _⟩ dX3_arrivalByRounds_105 (fun H locs G => ?_)
                      refine lv_aload_n hx hb dX3_arrivalByRounds_108 rfl (lv_at hl 2 rfl) ?_
                      refine m_getA B G M hin 15 (by decide) (by decide +kernel) dX3_arrivalByRounds_109 ?_
                      refine lv_iload hx hb dX3_arrivalByRounds_112 (lv_at hl 0 rfl) ?_
                      refine m_ald B G M 15 (by decide) (mTwo (mRnd (mBeg (xu V 17 20 0) n 8) nc r) i) (show (mTwo (mRnd (mBeg (xu V 17 20 0) n 8) nc r) i) < 8 by omega) rfl dX3_arrivalByRounds_114 ?_
                      refine lv_if_lt (tgt := 137) hx hb dX3_arrivalByRounds_115 (by decide) (fun c_115 => ?_) (fun c_115 => ?_)
                      · skip
                        refine lv_iinc (v := nI (i + 1)) (lv' := [(4, .int (nI (i + 1))), (6, .int (nI (mTwo (mRnd (mBeg (xu V 17 20 0) n 8) nc r) i))), (5, .int (nI (mOne (mRnd (mBeg (xu V 17 20 0) n 8) nc r) i))), (0, .ref (ad 17)), (1, .int (nI n)), (2, .int (nI d)), (3, .int (nI r))]) hx hb dX3_arrivalByRounds_137 hl (k := 6) rfl (nI_add i 1) (by decide) rfl (fun ls hl => ?_)
                        refine lv_goto (tgt := 46) hx hb dX3_arrivalByRounds_140 (by decide) ?_
                        have hl := lv_sub (l' := [(0, .ref (ad 17)), (1, .int (nI n)), (2, .int (nI d)), (3, .int (nI r)), (4, .int (nI (i + 1)))]) hl [3, 4, 5, 6, 0] rfl
                        have eV : mImp (mRow (mRnd (mBeg (xu V 17 20 0) n 8) nc r) i) (mTwo (mRnd (mBeg (xu V 17 20 0) n 8) nc r) i) (mUse (mRow (mRnd (mBeg (xu V 17 20 0) n 8) nc r) i) i ((mRow (mRnd (mBeg (xu V 17 20 0) n 8) nc r) i) 15 (mOne (mRnd (mBeg (xu V 17 20 0) n 8) nc r) i))) = mRow (mRnd (mBeg (xu V 17 20 0) n 8) nc r) (i + 1) := (by show _ = mRel _ _ _ _; unfold mRel; rw [if_neg c_86]; exact (if_pos c_115).symm)
                        rw [eV] at G
                        exact ih_46 (i + 1) (by omega) (by omega) _ _ _ G hl
                      · skip
                        refine lv_aload_n hx hb dX3_arrivalByRounds_118 rfl (lv_at hl 2 rfl) ?_
                        refine lv_iload hx hb dX3_arrivalByRounds_119 (lv_at hl 1 rfl) ?_
                        refine lv_aload_n hx hb dX3_arrivalByRounds_121 rfl (lv_at hl 2 rfl) ?_
                        refine lv_iload hx hb dX3_arrivalByRounds_122 (lv_at hl 6 rfl) ?_
                        refine lv_aload_n hx hb dX3_arrivalByRounds_124 rfl (lv_at hl 2 rfl) ?_
                        refine m_getA B G M hin 15 (by decide) (by decide +kernel) dX3_arrivalByRounds_125 ?_
                        refine lv_iload hx hb dX3_arrivalByRounds_128 (lv_at hl 0 rfl) ?_
                        refine m_ald B G M 15 (by decide) (mTwo (mRnd (mBeg (xu V 17 20 0) n 8) nc r) i) (show (mTwo (mRnd (mBeg (xu V 17 20 0) n 8) nc r) i) < 8 by omega) rfl dX3_arrivalByRounds_130 ?_
                        refine x_callVi (rest := [.int (nI (mOne (mRnd (mBeg (xu V 17 20 0) n 8) nc r) i)), .ref (ad 17)]) B G (c_X3_use l M (mImp (mRow (mRnd (mBeg (xu V 17 20 0) n 8) nc r) i) (mTwo (mRnd (mBeg (xu V 17 20 0) n 8) nc r) i) (mUse (mRow (mRnd (mBeg (xu V 17 20 0) n 8) nc r) i) i ((mRow (mRnd (mBeg (xu V 17 20 0) n 8) nc r) i) 15 (mOne (mRnd (mBeg (xu V 17 20 0) n 8) nc r) i)))) i ((mImp (mRow (mRnd (mBeg (xu V 17 20 0) n 8) nc r) i) (mTwo (mRnd (mBeg (xu V 17 20 0) n 8) nc r) i) (mUse (mRow (mRnd (mBeg (xu V 17 20 0) n 8) nc r) i) i ((mRow (mRnd (mBeg (xu V 17 20 0) n 8) nc r) i) 15 (mOne (mRnd (mBeg (xu V 17 20 0) n 8) nc r) i)))) 15 (mTwo (mRnd (mBeg (xu V 17 20 0) n 8) nc r) i)) (by omega)) (cwV 2 B.1.2.2.2.2 gX3_arrivalByRounds_X3_use rfl rfl rfl (by decide +kernel) ⟨Nat.le_of_ble_eq_true rfl, Nat.le_of_ble_eq_true rfl⟩) (m_recv B G M) rfl hl.1 rfl (Nat.le_of_ble_eq_true rfl) ⟨Nat.zero_le _, Nat.zero_le _⟩ dX3_arrivalByRounds_131 (fun H locs G => ?_)
                        refine x_callVv (rest := []) B G (c_X3_improve l M (mImp (mRow (mRnd (mBeg (xu V 17 20 0) n 8) nc r) i) (mTwo (mRnd (mBeg (xu V 17 20 0) n 8) nc r) i) (mUse (mRow (mRnd (mBeg (xu V 17 20 0) n 8) nc r) i) i ((mRow (mRnd (mBeg (xu V 17 20 0) n 8) nc r) i) 15 (mOne (mRnd (mBeg (xu V 17 20 0) n 8) nc r) i)))) (mOne (mRnd (mBeg (xu V 17 20 0) n 8) nc r) i) (mUse (mImp (mRow (mRnd (mBeg (xu V 17 20 0) n 8) nc r) i) (mTwo (mRnd (mBeg (xu V 17 20 0) n 8) nc r) i) (mUse (mRow (mRnd (mBeg (xu V 17 20 0) n 8) nc r) i) i ((mRow (mRnd (mBeg (xu V 17 20 0) n 8) nc r) i) 15 (mOne (mRnd (mBeg (xu V 17 20 0) n 8) nc r) i)))) i ((mImp (mRow (mRnd (mBeg (xu V 17 20 0) n 8) nc r) i) (mTwo (mRnd (mBeg (xu V 17 20 0) n 8) nc r) i) (mUse (mRow (mRnd (mBeg (xu V 17 20 0) n 8) nc r) i) i ((mRow (mRnd (mBeg (xu V 17 20 0) n 8) nc r) i) 15 (mOne (mRnd (mBeg (xu V 17 20 0) n 8) nc r) i)))) 15 (mTwo (mRnd (mBeg (xu V 17 20 0) n 8) nc r) i))) (by omega)) (cwV 2 B.1.2.2.2.2 gX3_arrivalByRounds_X3_improve rfl rfl rfl (by decide +kernel) ⟨Nat.le_of_ble_eq_true rfl, Nat.le_of_ble_eq_true rfl⟩) (m_recv B G M) rfl hl.1 rfl (Nat.le_of_ble_eq_true rfl) ⟨Nat.zero_le _, Nat.zero_le _⟩ dX3_arrivalByRounds_134 (fun H locs G => ?_)
                        refine lv_iinc (v := nI (i + 1)) (lv' := [(4, .int (nI (i + 1))), (6, .int (nI (mTwo (mRnd (mBeg (xu V 17 20 0) n 8) nc r) i))), (5, .int (nI (mOne (mRnd (mBeg (xu V 17 20 0) n 8) nc r) i))), (0, .ref (ad 17)), (1, .int (nI n)), (2, .int (nI d)), (3, .int (nI r))]) hx hb dX3_arrivalByRounds_137 hl (k := 6) rfl (nI_add i 1) (by decide) rfl (fun ls hl => ?_)
                        refine lv_goto (tgt := 46) hx hb dX3_arrivalByRounds_140 (by decide) ?_
                        have hl := lv_sub (l' := [(0, .ref (ad 17)), (1, .int (nI n)), (2, .int (nI d)), (3, .int (nI r)), (4, .int (nI (i + 1)))]) hl [3, 4, 5, 6, 0] rfl
                        have eV : mImp (mImp (mRow (mRnd (mBeg (xu V 17 20 0) n 8) nc r) i) (mTwo (mRnd (mBeg (xu V 17 20 0) n 8) nc r) i) (mUse (mRow (mRnd (mBeg (xu V 17 20 0) n 8) nc r) i) i ((mRow (mRnd (mBeg (xu V 17 20 0) n 8) nc r) i) 15 (mOne (mRnd (mBeg (xu V 17 20 0) n 8) nc r) i)))) (mOne (mRnd (mBeg (xu V 17 20 0) n 8) nc r) i) (mUse (mImp (mRow (mRnd (mBeg (xu V 17 20 0) n 8) nc r) i) (mTwo (mRnd (mBeg (xu V 17 20 0) n 8) nc r) i) (mUse (mRow (mRnd (mBeg (xu V 17 20 0) n 8) nc r) i) i ((mRow (mRnd (mBeg (xu V 17 20 0) n 8) nc r) i) 15 (mOne (mRnd (mBeg (xu V 17 20 0) n 8) nc r) i)))) i ((mImp (mRow (mRnd (mBeg (xu V 17 20 0) n 8) nc r) i) (mTwo (mRnd (mBeg (xu V 17 20 0) n 8) nc r) i) (mUse (mRow (mRnd (mBeg (xu V 17 20 0) n 8) nc r) i) i ((mRow (mRnd (mBeg (xu V 17 20 0) n 8) nc r) i) 15 (mOne (mRnd (mBeg (xu V 17 20 0) n 8) nc r) i)))) 15 (mTwo (mRnd (mBeg (xu V 17 20 0) n 8) nc r) i))) = mRow (mRnd (mBeg (xu V 17 20 0) n 8) nc r) (i + 1) := (by show _ = mRel _ _ _ _; unfold mRel; rw [if_neg c_86]; exact (if_neg c_115).symm)
                        rw [eV] at G
                        exact ih_46 (i + 1) (by omega) (by omega) _ _ _ G hl
              have hl := lv_sub (l' := [(0, .ref (ad 17)), (1, .int (nI n)), (2, .int (nI d)), (3, .int (nI r)), (4, .int 0)]) hl [1, 2, 3, 4, 0] rfl
              have hl := lv_cast hl (congrArg (fun z : Int32 => ([(0, .ref (ad 17)), (1, .int (nI n)), (2, .int (nI d)), (3, .int (nI r)), (4, .int z)] : List (Nat × Value))) (show 0 = nI 0 from rfl))
              have eV : mRnd (mBeg (xu V 17 20 0) n 8) nc r = mRow (mRnd (mBeg (xu V 17 20 0) n 8) nc r) 0 := rfl
              rw [eV] at G
              exact loop_46 (nc + 1) 0 (by omega) (by omega) _ _ _ G hl
        have hl := lv_sub (l' := [(0, .ref (ad 17)), (1, .int (nI n)), (2, .int (nI d)), (3, .int 0)]) hl [1, 2, 3, 0] rfl
        have hl := lv_cast hl (congrArg (fun z : Int32 => ([(0, .ref (ad 17)), (1, .int (nI n)), (2, .int (nI d)), (3, .int z)] : List (Nat × Value))) (show 0 = nI 0 from rfl))
        have eV : mBeg (xu V 17 20 0) n 8 = mRnd (mBeg (xu V 17 20 0) n 8) nc 0 := rfl
        rw [eV] at G
        exact loop_37 (8 + 1) 0 (by omega) (by omega) _ _ _ G hl
      · exact False.elim (c_25 (by decide))
