set_option maxHeartbeats 4000000 in
set_option maxRecDepth 100000 in
theorem c_X2_checkNode_bad (l : Launch) (hst : l.stackTraces = false) {D : va_G} {sh : xS} {ad : Nat → Nat} {tys : List (ClassId × FieldType)} (hI : xI sh ad) {sa : Nat → Nat} (V : xV) (x : Int32) (h : ¬ (0 ≤ x ∧ x ≤ 7)) : xMx l yX2_checkNode wsX2_checkNode (rmX 2) D sh ad tys sa V [.int x] eIO V := by
  refine xOfx (cc := cX2_checkNode) (nL := 1) (ret := none) (own := RX2) (by decide) rfl rfl (Nat.le_of_ble_eq_true rfl) hI ?_
  intro p e s m args below meth c A ls B hex F G hl
  have hx := B.1.1
  have hb := B.1.2.1
  have hl : lv_has ls 1 [(0, .int x)] := hl
  refine lv_iload_n hx hb dX2_checkNode_0 rfl (lv_at hl 0 rfl) ?_
  refine x_callSi (rest := []) B G (c_X2_isNode l hI V x) (va_cwS 1 B.1.2.2.2.2 gX2_checkNode_X2_isNode rfl rfl rfl (by decide +kernel) ⟨Nat.le_of_ble_eq_true rfl, Nat.le_of_ble_eq_true rfl⟩) rfl hl.1 rfl (Nat.le_of_ble_eq_true rfl) ⟨Nat.zero_le _, Nat.zero_le _⟩ dX2_checkNode_1 (fun H locs G => ?_)
  refine lv_if_ne (tgt := 17) hx hb dX2_checkNode_4 (by decide) (fun c_4 => ?_) (fun c_4 => ?_)
  · exact False.elim (c_4 (b2i_f (h)))
  · skip
    exact x_throw (cls := eIO) (text := "no such node") (ik := 44) (is := 46) (ic := 48) B hex F G hst (rfl) (by decide +kernel) (by decide +kernel) (by decide +kernel) (by decide +kernel) (by decide +kernel) (by decide +kernel) (by decide +kernel) hl.1 dX2_checkNode_7 dX2_checkNode_10 dX2_checkNode_11 dX2_checkNode_13 dX2_checkNode_16 (by decide)
set_option maxHeartbeats 4000000 in
set_option maxRecDepth 100000 in
theorem c_X2_numbered_bad (l : Launch) (hst : l.stackTraces = false) {D : va_G} {sh : xS} {ad : Nat → Nat} {cI cZ cO : ClassId} {tys : List (ClassId × FieldType)} {nb : Nat} {od : Nat → Nat} (DL : xDl sh ad cI cZ cO tys nb od) {sa : Nat → Nat} (V : xV) (h4 : V 4 2 = nI nb) (h5 : V 5 2 = nI nb) (x : Int32) (h : ¬ (0 ≤ x ∧ x < nI nb)) : xMx l yX2_numbered wsX2_numbered (rmX 3) D sh ad tys sa V [.ref (ad 0), .int x] eIO V := by
  refine xOfx (cc := cX2_numbered) (nL := 2) (ret := some (.object "Delaypouch$Bundle")) (own := RX2) (by decide) rfl rfl (Nat.le_of_ble_eq_true rfl) DL.2.2.2.2.2.2.1.2.2 ?_
  intro p e s m args below meth c A ls B hex F G hl
  have hx := B.1.1
  have hb := B.1.2.1
  have hin2 : ∀ w ∈ wsX20, w ∈ wsX2_numbered := by decide +kernel
  have hinL : ∀ w ∈ wsJx4a65c0, w ∈ wsX2_numbered := by decide +kernel
  have hl : lv_has ls 2 [(0, .ref (ad 0)), (1, .int x)] := hl
  obtain ⟨Dl, Pl, L4, L5, Bs, od_lt, Cx, tO, hn40⟩ := id DL
  obtain ⟨a4, s4, -⟩ := id L4
  obtain ⟨a5, s5, -⟩ := id L5
  refine lv_iload_n hx hb dX2_numbered_0 rfl (lv_at hl 1 rfl) ?_
  refine lv_if_lt (tgt := 15) hx hb dX2_numbered_1 (by decide) (fun c_1 => ?_) (fun c_1 => ?_)
  · skip
    exact x_throw (cls := eIO) (text := "no such bundle") (ik := 44) (is := 195) (ic := 48) B hex F G hst (rfl) (by decide +kernel) (by decide +kernel) (by decide +kernel) (by decide +kernel) (by decide +kernel) (by decide +kernel) (by decide +kernel) hl.1 dX2_numbered_15 dX2_numbered_18 dX2_numbered_19 dX2_numbered_21 dX2_numbered_24 (by decide)
  · skip
    refine lv_iload_n hx hb dX2_numbered_4 rfl (lv_at hl 1 rfl) ?_
    refine lv_aload_n hx hb dX2_numbered_5 rfl (lv_at hl 0 rfl) ?_
    refine d_getA B G Dl hin2 4 (by decide) (by decide +kernel) dX2_numbered_6 ?_
    refine x_callVi (rest := [.int x]) B G (c_size l Cx.2.2 V 4 s4) (cwV 0 B.1.2.2.2.2 gX2_numbered_Jx4a65c_size_8abf5 rfl rfl rfl (by decide +kernel) ⟨Nat.le_of_ble_eq_true rfl, Nat.le_of_ble_eq_true rfl⟩) (l_recv B G 4 s4) rfl hl.1 rfl (Nat.le_of_ble_eq_true rfl) ⟨Nat.zero_le _, Nat.zero_le _⟩ dX2_numbered_9 (fun H locs G => ?_)
    refine x_top (show _ = nI nb from h4) ?_
    refine lv_icmp_lt (tgt := 25) hx hb dX2_numbered_12 (by decide) (fun c_12 => ?_) (fun c_12 => ?_)
    · skip
      exact absurd ⟨i_nlt.mp c_1, c_12⟩ h
    · skip
      exact x_throw (cls := eIO) (text := "no such bundle") (ik := 44) (is := 195) (ic := 48) B hex F G hst (rfl) (by decide +kernel) (by decide +kernel) (by decide +kernel) (by decide +kernel) (by decide +kernel) (by decide +kernel) (by decide +kernel) hl.1 dX2_numbered_15 dX2_numbered_18 dX2_numbered_19 dX2_numbered_21 dX2_numbered_24 (by decide)
set_option maxHeartbeats 4000000 in
set_option maxRecDepth 100000 in
theorem c_X2_endOf_bad (l : Launch) (hst : l.stackTraces = false) {D : va_G} {sh : xS} {ad : Nat → Nat} {cI cZ cO : ClassId} {tys : List (ClassId × FieldType)} {nb : Nat} {od : Nat → Nat} (DL : xDl sh ad cI cZ cO tys nb od) {sa : Nat → Nat} (V : xV) (h4 : V 4 2 = nI nb) (h5 : V 5 2 = nI nb) (x : Int32) (h : ¬ (0 ≤ x ∧ x < nI nb)) : xMx l yX2_endOf wsX2_endOf (rmX 4) D sh ad tys sa V [.ref (ad 0), .int x] eIO V := by
  refine xOfx (cc := cX2_endOf) (nL := 2) (ret := some .int) (own := RX2) (by decide) rfl rfl (Nat.le_of_ble_eq_true rfl) DL.2.2.2.2.2.2.1.2.2 ?_
  intro p e s m args below meth c A ls B hex F G hl
  have hx := B.1.1
  have hb := B.1.2.1
  have hin0 : ∀ w ∈ wsX00, w ∈ wsX2_endOf := by decide +kernel
  have hin2 : ∀ w ∈ wsX20, w ∈ wsX2_endOf := by decide +kernel
  have hinL : ∀ w ∈ wsJx4a65c0, w ∈ wsX2_endOf := by decide +kernel
  have hl : lv_has ls 2 [(0, .ref (ad 0)), (1, .int x)] := hl
  obtain ⟨Dl, Pl, L4, L5, Bs, od_lt, Cx, tO, hn40⟩ := id DL
  obtain ⟨a4, s4, -⟩ := id L4
  obtain ⟨a5, s5, -⟩ := id L5
  refine lv_aload_n hx hb dX2_endOf_0 rfl (lv_at hl 0 rfl) ?_
  refine lv_iload_n hx hb dX2_endOf_1 rfl (lv_at hl 1 rfl) ?_
  exact x_callVx (rest := []) B hex F G (c_X2_numbered_bad l hst DL V h4 h5 x h) (cwV 1 B.1.2.2.2.2 gX2_endOf_X2_numbered rfl rfl rfl (by decide +kernel) ⟨Nat.le_of_ble_eq_true rfl, Nat.le_of_ble_eq_true rfl⟩) (d_recv B G Dl) rfl hl.1 rfl (Nat.le_of_ble_eq_true rfl) ⟨Nat.le_refl _, Nat.le_refl _⟩ dX2_endOf_2
set_option maxHeartbeats 4000000 in
set_option maxRecDepth 100000 in
theorem c_X2_deliveredAt_bad (l : Launch) (hst : l.stackTraces = false) {D : va_G} {sh : xS} {ad : Nat → Nat} {cI cZ cO : ClassId} {tys : List (ClassId × FieldType)} {nb : Nat} {od : Nat → Nat} (DL : xDl sh ad cI cZ cO tys nb od) {sa : Nat → Nat} (V : xV) (h4 : V 4 2 = nI nb) (h5 : V 5 2 = nI nb) (x : Int32) (h : ¬ (0 ≤ x ∧ x < nI nb)) : xMx l yX2_deliveredAt wsX2_deliveredAt (rmX 4) D sh ad tys sa V [.ref (ad 0), .int x] eIO V := by
  refine xOfx (cc := cX2_deliveredAt) (nL := 2) (ret := some .int) (own := RX2) (by decide) rfl rfl (Nat.le_of_ble_eq_true rfl) DL.2.2.2.2.2.2.1.2.2 ?_
  intro p e s m args below meth c A ls B hex F G hl
  have hx := B.1.1
  have hb := B.1.2.1
  have hin0 : ∀ w ∈ wsX00, w ∈ wsX2_deliveredAt := by decide +kernel
  have hin2 : ∀ w ∈ wsX20, w ∈ wsX2_deliveredAt := by decide +kernel
  have hinL : ∀ w ∈ wsJx4a65c0, w ∈ wsX2_deliveredAt := by decide +kernel
  have hl : lv_has ls 2 [(0, .ref (ad 0)), (1, .int x)] := hl
  obtain ⟨Dl, Pl, L4, L5, Bs, od_lt, Cx, tO, hn40⟩ := id DL
  obtain ⟨a4, s4, -⟩ := id L4
  obtain ⟨a5, s5, -⟩ := id L5
  refine lv_aload_n hx hb dX2_deliveredAt_0 rfl (lv_at hl 0 rfl) ?_
  refine lv_iload_n hx hb dX2_deliveredAt_1 rfl (lv_at hl 1 rfl) ?_
  exact x_callVx (rest := []) B hex F G (c_X2_numbered_bad l hst DL V h4 h5 x h) (cwV 1 B.1.2.2.2.2 gX2_deliveredAt_X2_numbered rfl rfl rfl (by decide +kernel) ⟨Nat.le_of_ble_eq_true rfl, Nat.le_of_ble_eq_true rfl⟩) (d_recv B G Dl) rfl hl.1 rfl (Nat.le_of_ble_eq_true rfl) ⟨Nat.le_refl _, Nat.le_refl _⟩ dX2_deliveredAt_2
set_option maxHeartbeats 4000000 in
set_option maxRecDepth 100000 in
theorem c_X2_hops_bad (l : Launch) (hst : l.stackTraces = false) {D : va_G} {sh : xS} {ad : Nat → Nat} {cI cZ cO : ClassId} {tys : List (ClassId × FieldType)} {nb : Nat} {od : Nat → Nat} (DL : xDl sh ad cI cZ cO tys nb od) {sa : Nat → Nat} (V : xV) (h4 : V 4 2 = nI nb) (h5 : V 5 2 = nI nb) (x : Int32) (h : ¬ (0 ≤ x ∧ x < nI nb)) : xMx l yX2_hops wsX2_hops (rmX 4) D sh ad tys sa V [.ref (ad 0), .int x] eIO V := by
  refine xOfx (cc := cX2_hops) (nL := 2) (ret := some .int) (own := RX2) (by decide) rfl rfl (Nat.le_of_ble_eq_true rfl) DL.2.2.2.2.2.2.1.2.2 ?_
  intro p e s m args below meth c A ls B hex F G hl
  have hx := B.1.1
  have hb := B.1.2.1
  have hin0 : ∀ w ∈ wsX00, w ∈ wsX2_hops := by decide +kernel
  have hin2 : ∀ w ∈ wsX20, w ∈ wsX2_hops := by decide +kernel
  have hinL : ∀ w ∈ wsJx4a65c0, w ∈ wsX2_hops := by decide +kernel
  have hl : lv_has ls 2 [(0, .ref (ad 0)), (1, .int x)] := hl
  obtain ⟨Dl, Pl, L4, L5, Bs, od_lt, Cx, tO, hn40⟩ := id DL
  obtain ⟨a4, s4, -⟩ := id L4
  obtain ⟨a5, s5, -⟩ := id L5
  refine lv_aload_n hx hb dX2_hops_0 rfl (lv_at hl 0 rfl) ?_
  refine lv_iload_n hx hb dX2_hops_1 rfl (lv_at hl 1 rfl) ?_
  exact x_callVx (rest := []) B hex F G (c_X2_numbered_bad l hst DL V h4 h5 x h) (cwV 1 B.1.2.2.2.2 gX2_hops_X2_numbered rfl rfl rfl (by decide +kernel) ⟨Nat.le_of_ble_eq_true rfl, Nat.le_of_ble_eq_true rfl⟩) (d_recv B G Dl) rfl hl.1 rfl (Nat.le_of_ble_eq_true rfl) ⟨Nat.le_refl _, Nat.le_refl _⟩ dX2_hops_2
set_option maxHeartbeats 4000000 in
set_option maxRecDepth 100000 in
theorem c_X2_custodian_bad (l : Launch) (hst : l.stackTraces = false) {D : va_G} {sh : xS} {ad : Nat → Nat} {cI cZ cO : ClassId} {tys : List (ClassId × FieldType)} {nb : Nat} {od : Nat → Nat} (DL : xDl sh ad cI cZ cO tys nb od) {sa : Nat → Nat} (V : xV) (h4 : V 4 2 = nI nb) (h5 : V 5 2 = nI nb) (x : Int32) (h : ¬ (0 ≤ x ∧ x < nI nb)) : xMx l yX2_custodian wsX2_custodian (rmX 4) D sh ad tys sa V [.ref (ad 0), .int x] eIO V := by
  refine xOfx (cc := cX2_custodian) (nL := 2) (ret := some .int) (own := RX2) (by decide) rfl rfl (Nat.le_of_ble_eq_true rfl) DL.2.2.2.2.2.2.1.2.2 ?_
  intro p e s m args below meth c A ls B hex F G hl
  have hx := B.1.1
  have hb := B.1.2.1
  have hin0 : ∀ w ∈ wsX00, w ∈ wsX2_custodian := by decide +kernel
  have hin2 : ∀ w ∈ wsX20, w ∈ wsX2_custodian := by decide +kernel
  have hinL : ∀ w ∈ wsJx4a65c0, w ∈ wsX2_custodian := by decide +kernel
  have hl : lv_has ls 2 [(0, .ref (ad 0)), (1, .int x)] := hl
  obtain ⟨Dl, Pl, L4, L5, Bs, od_lt, Cx, tO, hn40⟩ := id DL
  obtain ⟨a4, s4, -⟩ := id L4
  obtain ⟨a5, s5, -⟩ := id L5
  refine lv_aload_n hx hb dX2_custodian_0 rfl (lv_at hl 0 rfl) ?_
  refine lv_iload_n hx hb dX2_custodian_1 rfl (lv_at hl 1 rfl) ?_
  exact x_callVx (rest := []) B hex F G (c_X2_numbered_bad l hst DL V h4 h5 x h) (cwV 1 B.1.2.2.2.2 gX2_custodian_X2_numbered rfl rfl rfl (by decide +kernel) ⟨Nat.le_of_ble_eq_true rfl, Nat.le_of_ble_eq_true rfl⟩) (d_recv B G Dl) rfl hl.1 rfl (Nat.le_of_ble_eq_true rfl) ⟨Nat.le_refl _, Nat.le_refl _⟩ dX2_custodian_2
set_option maxHeartbeats 4000000 in
set_option maxRecDepth 100000 in
theorem c_X2_holders_bad (l : Launch) (hst : l.stackTraces = false) {D : va_G} {sh : xS} {ad : Nat → Nat} {cI cZ cO : ClassId} {tys : List (ClassId × FieldType)} {nb : Nat} {od : Nat → Nat} (DL : xDl sh ad cI cZ cO tys nb od) {sa : Nat → Nat} (V : xV) (h4 : V 4 2 = nI nb) (h5 : V 5 2 = nI nb) (x : Int32) (h : ¬ (0 ≤ x ∧ x < nI nb)) : xMx l yX2_holders wsX2_holders (rmX 4) D sh ad tys sa V [.ref (ad 0), .int x] eIO V := by
  refine xOfx (cc := cX2_holders) (nL := 5) (ret := some .int) (own := RX2) (by decide) rfl rfl (Nat.le_of_ble_eq_true rfl) DL.2.2.2.2.2.2.1.2.2 ?_
  intro p e s m args below meth c A ls B hex F G hl
  have hx := B.1.1
  have hb := B.1.2.1
  have hin0 : ∀ w ∈ wsX00, w ∈ wsX2_holders := by decide +kernel
  have hin2 : ∀ w ∈ wsX20, w ∈ wsX2_holders := by decide +kernel
  have hinL : ∀ w ∈ wsJx4a65c0, w ∈ wsX2_holders := by decide +kernel
  have hl : lv_has ls 5 [(0, .ref (ad 0)), (1, .int x)] := hl
  obtain ⟨Dl, Pl, L4, L5, Bs, od_lt, Cx, tO, hn40⟩ := id DL
  obtain ⟨a4, s4, -⟩ := id L4
  obtain ⟨a5, s5, -⟩ := id L5
  refine lv_aload_n hx hb dX2_holders_0 rfl (lv_at hl 0 rfl) ?_
  refine lv_iload_n hx hb dX2_holders_1 rfl (lv_at hl 1 rfl) ?_
  exact x_callVx (rest := []) B hex F G (c_X2_numbered_bad l hst DL V h4 h5 x h) (cwV 1 B.1.2.2.2.2 gX2_holders_X2_numbered rfl rfl rfl (by decide +kernel) ⟨Nat.le_of_ble_eq_true rfl, Nat.le_of_ble_eq_true rfl⟩) (d_recv B G Dl) rfl hl.1 rfl (Nat.le_of_ble_eq_true rfl) ⟨Nat.le_refl _, Nat.le_refl _⟩ dX2_holders_2
set_option maxHeartbeats 4000000 in
set_option maxRecDepth 100000 in
theorem c_X2_promised_bad (l : Launch) (hst : l.stackTraces = false) {D : va_G} {sh : xS} {ad : Nat → Nat} {cI cZ cO : ClassId} {tys : List (ClassId × FieldType)} {nb : Nat} {od : Nat → Nat} (DL : xDl sh ad cI cZ cO tys nb od) {sa : Nat → Nat} (V : xV) (h4 : V 4 2 = nI nb) (h5 : V 5 2 = nI nb) (x : Int32) (h : ¬ (0 ≤ x ∧ x < nI nb)) : xMx l yX2_promised wsX2_promised (rmX 4) D sh ad tys sa V [.ref (ad 0), .int x] eIO V := by
  refine xOfx (cc := cX2_promised) (nL := 5) (ret := some .int) (own := RX2) (by decide) rfl rfl (Nat.le_of_ble_eq_true rfl) DL.2.2.2.2.2.2.1.2.2 ?_
  intro p e s m args below meth c A ls B hex F G hl
  have hx := B.1.1
  have hb := B.1.2.1
  have hin0 : ∀ w ∈ wsX00, w ∈ wsX2_promised := by decide +kernel
  have hin1 : ∀ w ∈ wsX10, w ∈ wsX2_promised := by decide +kernel
  have hin2 : ∀ w ∈ wsX20, w ∈ wsX2_promised := by decide +kernel
  have hinL : ∀ w ∈ wsJx4a65c0, w ∈ wsX2_promised := by decide +kernel
  have hl : lv_has ls 5 [(0, .ref (ad 0)), (1, .int x)] := hl
  obtain ⟨Dl, Pl, L4, L5, Bs, od_lt, Cx, tO, hn40⟩ := id DL
  obtain ⟨a4, s4, -⟩ := id L4
  obtain ⟨a5, s5, -⟩ := id L5
  refine lv_aload_n hx hb dX2_promised_0 rfl (lv_at hl 0 rfl) ?_
  refine lv_iload_n hx hb dX2_promised_1 rfl (lv_at hl 1 rfl) ?_
  exact x_callVx (rest := []) B hex F G (c_X2_numbered_bad l hst DL V h4 h5 x h) (cwV 1 B.1.2.2.2.2 gX2_promised_X2_numbered rfl rfl rfl (by decide +kernel) ⟨Nat.le_of_ble_eq_true rfl, Nat.le_of_ble_eq_true rfl⟩) (d_recv B G Dl) rfl hl.1 rfl (Nat.le_of_ble_eq_true rfl) ⟨Nat.le_refl _, Nat.le_refl _⟩ dX2_promised_2
set_option maxHeartbeats 4000000 in
set_option maxRecDepth 100000 in
theorem c_X2_copies_bad1 (l : Launch) (hst : l.stackTraces = false) {D : va_G} {sh : xS} {ad : Nat → Nat} {cI cZ cO : ClassId} {tys : List (ClassId × FieldType)} {nb : Nat} {od : Nat → Nat} (DL : xDl sh ad cI cZ cO tys nb od) {sa : Nat → Nat} (V : xV) (h4 : V 4 2 = nI nb) (h5 : V 5 2 = nI nb) (x y : Int32) (h : ¬ (0 ≤ x ∧ x ≤ 7)) : xMx l yX2_copies wsX2_copies (rmX 4) D sh ad tys sa V [.ref (ad 0), .int x, .int y] eIO V := by
  refine xOfx (cc := cX2_copies) (nL := 3) (ret := some .int) (own := RX2) (by decide) rfl rfl (Nat.le_of_ble_eq_true rfl) DL.2.2.2.2.2.2.1.2.2 ?_
  intro p e s m args below meth c A ls B hex F G hl
  have hx := B.1.1
  have hb := B.1.2.1
  have hin0 : ∀ w ∈ wsX00, w ∈ wsX2_copies := by decide +kernel
  have hin2 : ∀ w ∈ wsX20, w ∈ wsX2_copies := by decide +kernel
  have hinL : ∀ w ∈ wsJx4a65c0, w ∈ wsX2_copies := by decide +kernel
  have hl : lv_has ls 3 [(0, .ref (ad 0)), (1, .int x), (2, .int y)] := hl
  obtain ⟨Dl, Pl, L4, L5, Bs, od_lt, Cx, tO, hn40⟩ := id DL
  obtain ⟨a4, s4, -⟩ := id L4
  obtain ⟨a5, s5, -⟩ := id L5
  refine lv_iload_n hx hb dX2_copies_0 rfl (lv_at hl 1 rfl) ?_
  exact x_callSx (rest := []) B hex F G (c_X2_checkNode_bad l hst Cx.2.2 V x h) (va_cwS 1 B.1.2.2.2.2 gX2_copies_X2_checkNode rfl rfl rfl (by decide +kernel) ⟨Nat.le_of_ble_eq_true rfl, Nat.le_of_ble_eq_true rfl⟩) rfl hl.1 rfl (Nat.le_of_ble_eq_true rfl) ⟨Nat.le_refl _, Nat.le_refl _⟩ dX2_copies_1
set_option maxHeartbeats 4000000 in
set_option maxRecDepth 100000 in
theorem c_X2_knows_bad1 (l : Launch) (hst : l.stackTraces = false) {D : va_G} {sh : xS} {ad : Nat → Nat} {cI cZ cO : ClassId} {tys : List (ClassId × FieldType)} {nb : Nat} {od : Nat → Nat} (DL : xDl sh ad cI cZ cO tys nb od) {sa : Nat → Nat} (V : xV) (h4 : V 4 2 = nI nb) (h5 : V 5 2 = nI nb) (x y : Int32) (h : ¬ (0 ≤ x ∧ x ≤ 7)) : xMx l yX2_knows wsX2_knows (rmX 4) D sh ad tys sa V [.ref (ad 0), .int x, .int y] eIO V := by
  refine xOfx (cc := cX2_knows) (nL := 3) (ret := some .boolean) (own := RX2) (by decide) rfl rfl (Nat.le_of_ble_eq_true rfl) DL.2.2.2.2.2.2.1.2.2 ?_
  intro p e s m args below meth c A ls B hex F G hl
  have hx := B.1.1
  have hb := B.1.2.1
  have hin0 : ∀ w ∈ wsX00, w ∈ wsX2_knows := by decide +kernel
  have hin2 : ∀ w ∈ wsX20, w ∈ wsX2_knows := by decide +kernel
  have hinL : ∀ w ∈ wsJx4a65c0, w ∈ wsX2_knows := by decide +kernel
  have hl : lv_has ls 3 [(0, .ref (ad 0)), (1, .int x), (2, .int y)] := hl
  obtain ⟨Dl, Pl, L4, L5, Bs, od_lt, Cx, tO, hn40⟩ := id DL
  obtain ⟨a4, s4, -⟩ := id L4
  obtain ⟨a5, s5, -⟩ := id L5
  refine lv_iload_n hx hb dX2_knows_0 rfl (lv_at hl 1 rfl) ?_
  exact x_callSx (rest := []) B hex F G (c_X2_checkNode_bad l hst Cx.2.2 V x h) (va_cwS 1 B.1.2.2.2.2 gX2_knows_X2_checkNode rfl rfl rfl (by decide +kernel) ⟨Nat.le_of_ble_eq_true rfl, Nat.le_of_ble_eq_true rfl⟩) rfl hl.1 rfl (Nat.le_of_ble_eq_true rfl) ⟨Nat.le_refl _, Nat.le_refl _⟩ dX2_knows_1
set_option maxHeartbeats 4000000 in
set_option maxRecDepth 100000 in
theorem c_X2_heldAt_bad1 (l : Launch) (hst : l.stackTraces = false) {D : va_G} {sh : xS} {ad : Nat → Nat} {cI cZ cO : ClassId} {tys : List (ClassId × FieldType)} {nb : Nat} {od : Nat → Nat} (DL : xDl sh ad cI cZ cO tys nb od) {sa : Nat → Nat} (V : xV) (h4 : V 4 2 = nI nb) (h5 : V 5 2 = nI nb) (x y : Int32) (h : ¬ (0 ≤ x ∧ x ≤ 7)) : xMx l yX2_heldAt wsX2_heldAt (rmX 4) D sh ad tys sa V [.ref (ad 0), .int x, .int y] eIO V := by
  refine xOfx (cc := cX2_heldAt) (nL := 6) (ret := some .int) (own := RX2) (by decide) rfl rfl (Nat.le_of_ble_eq_true rfl) DL.2.2.2.2.2.2.1.2.2 ?_
  intro p e s m args below meth c A ls B hex F G hl
  have hx := B.1.1
  have hb := B.1.2.1
  have hin0 : ∀ w ∈ wsX00, w ∈ wsX2_heldAt := by decide +kernel
  have hin2 : ∀ w ∈ wsX20, w ∈ wsX2_heldAt := by decide +kernel
  have hinL : ∀ w ∈ wsJx4a65c0, w ∈ wsX2_heldAt := by decide +kernel
  have hl : lv_has ls 6 [(0, .ref (ad 0)), (1, .int x), (2, .int y)] := hl
  obtain ⟨Dl, Pl, L4, L5, Bs, od_lt, Cx, tO, hn40⟩ := id DL
  obtain ⟨a4, s4, -⟩ := id L4
  obtain ⟨a5, s5, -⟩ := id L5
  refine lv_iload_n hx hb dX2_heldAt_0 rfl (lv_at hl 1 rfl) ?_
  exact x_callSx (rest := []) B hex F G (c_X2_checkNode_bad l hst Cx.2.2 V x h) (va_cwS 1 B.1.2.2.2.2 gX2_heldAt_X2_checkNode rfl rfl rfl (by decide +kernel) ⟨Nat.le_of_ble_eq_true rfl, Nat.le_of_ble_eq_true rfl⟩) rfl hl.1 rfl (Nat.le_of_ble_eq_true rfl) ⟨Nat.le_refl _, Nat.le_refl _⟩ dX2_heldAt_1
set_option maxHeartbeats 4000000 in
set_option maxRecDepth 100000 in
theorem c_X2_arrival_bad1 (l : Launch) (hst : l.stackTraces = false) {D : va_G} {sh : xS} {ad : Nat → Nat} {cI cZ cO : ClassId} {tys : List (ClassId × FieldType)} {nb : Nat} {od : Nat → Nat} (DL : xDl sh ad cI cZ cO tys nb od) {sa : Nat → Nat} (V : xV) (h4 : V 4 2 = nI nb) (h5 : V 5 2 = nI nb) (x y : Int32) (h : ¬ (0 ≤ x ∧ x ≤ 7)) : xMx l yX2_arrival wsX2_arrival (rmX 4) D sh ad tys sa V [.ref (ad 0), .int x, .int y] eIO V := by
  refine xOfx (cc := cX2_arrival) (nL := 3) (ret := some .int) (own := RX2) (by decide) rfl rfl (Nat.le_of_ble_eq_true rfl) DL.2.2.2.2.2.2.1.2.2 ?_
  intro p e s m args below meth c A ls B hex F G hl
  have hx := B.1.1
  have hb := B.1.2.1
  have hin1 : ∀ w ∈ wsX10, w ∈ wsX2_arrival := by decide +kernel
  have hin2 : ∀ w ∈ wsX20, w ∈ wsX2_arrival := by decide +kernel
  have hl : lv_has ls 3 [(0, .ref (ad 0)), (1, .int x), (2, .int y)] := hl
  obtain ⟨Dl, Pl, L4, L5, Bs, od_lt, Cx, tO, hn40⟩ := id DL
  obtain ⟨a4, s4, -⟩ := id L4
  obtain ⟨a5, s5, -⟩ := id L5
  refine lv_iload_n hx hb dX2_arrival_0 rfl (lv_at hl 1 rfl) ?_
  exact x_callSx (rest := []) B hex F G (c_X2_checkNode_bad l hst Cx.2.2 V x h) (va_cwS 1 B.1.2.2.2.2 gX2_arrival_X2_checkNode rfl rfl rfl (by decide +kernel) ⟨Nat.le_of_ble_eq_true rfl, Nat.le_of_ble_eq_true rfl⟩) rfl hl.1 rfl (Nat.le_of_ble_eq_true rfl) ⟨Nat.le_refl _, Nat.le_refl _⟩ dX2_arrival_1
set_option maxHeartbeats 4000000 in
set_option maxRecDepth 100000 in
theorem c_X2_arrivalByRounds_bad1 (l : Launch) (hst : l.stackTraces = false) {D : va_G} {sh : xS} {ad : Nat → Nat} {cI cZ cO : ClassId} {tys : List (ClassId × FieldType)} {nb : Nat} {od : Nat → Nat} (DL : xDl sh ad cI cZ cO tys nb od) {sa : Nat → Nat} (V : xV) (h4 : V 4 2 = nI nb) (h5 : V 5 2 = nI nb) (x y : Int32) (h : ¬ (0 ≤ x ∧ x ≤ 7)) : xMx l yX2_arrivalByRounds wsX2_arrivalByRounds (rmX 4) D sh ad tys sa V [.ref (ad 0), .int x, .int y] eIO V := by
  refine xOfx (cc := cX2_arrivalByRounds) (nL := 3) (ret := some .int) (own := RX2) (by decide) rfl rfl (Nat.le_of_ble_eq_true rfl) DL.2.2.2.2.2.2.1.2.2 ?_
  intro p e s m args below meth c A ls B hex F G hl
  have hx := B.1.1
  have hb := B.1.2.1
  have hin1 : ∀ w ∈ wsX10, w ∈ wsX2_arrivalByRounds := by decide +kernel
  have hin2 : ∀ w ∈ wsX20, w ∈ wsX2_arrivalByRounds := by decide +kernel
  have hl : lv_has ls 3 [(0, .ref (ad 0)), (1, .int x), (2, .int y)] := hl
  obtain ⟨Dl, Pl, L4, L5, Bs, od_lt, Cx, tO, hn40⟩ := id DL
  obtain ⟨a4, s4, -⟩ := id L4
  obtain ⟨a5, s5, -⟩ := id L5
  refine lv_iload_n hx hb dX2_arrivalByRounds_0 rfl (lv_at hl 1 rfl) ?_
  exact x_callSx (rest := []) B hex F G (c_X2_checkNode_bad l hst Cx.2.2 V x h) (va_cwS 1 B.1.2.2.2.2 gX2_arrivalByRounds_X2_checkNode rfl rfl rfl (by decide +kernel) ⟨Nat.le_of_ble_eq_true rfl, Nat.le_of_ble_eq_true rfl⟩) rfl hl.1 rfl (Nat.le_of_ble_eq_true rfl) ⟨Nat.le_refl _, Nat.le_refl _⟩ dX2_arrivalByRounds_1
set_option maxHeartbeats 4000000 in
set_option maxRecDepth 100000 in
theorem c_X2_held_bad (l : Launch) (hst : l.stackTraces = false) {D : va_G} {sh : xS} {ad : Nat → Nat} {cI cZ cO : ClassId} {tys : List (ClassId × FieldType)} {nb : Nat} {od : Nat → Nat} (DL : xDl sh ad cI cZ cO tys nb od) {sa : Nat → Nat} (V : xV) (h4 : V 4 2 = nI nb) (h5 : V 5 2 = nI nb) (x : Int32) (h : ¬ (0 ≤ x ∧ x ≤ 7)) : xMx l yX2_held wsX2_held (rmX 4) D sh ad tys sa V [.ref (ad 0), .int x] eIO V := by
  refine xOfx (cc := cX2_held) (nL := 2) (ret := some .int) (own := RX2) (by decide) rfl rfl (Nat.le_of_ble_eq_true rfl) DL.2.2.2.2.2.2.1.2.2 ?_
  intro p e s m args below meth c A ls B hex F G hl
  have hx := B.1.1
  have hb := B.1.2.1
  have hin0 : ∀ w ∈ wsX00, w ∈ wsX2_held := by decide +kernel
  have hin2 : ∀ w ∈ wsX20, w ∈ wsX2_held := by decide +kernel
  have hinL : ∀ w ∈ wsJx4a65c0, w ∈ wsX2_held := by decide +kernel
  have hl : lv_has ls 2 [(0, .ref (ad 0)), (1, .int x)] := hl
  obtain ⟨Dl, Pl, L4, L5, Bs, od_lt, Cx, tO, hn40⟩ := id DL
  obtain ⟨a4, s4, -⟩ := id L4
  obtain ⟨a5, s5, -⟩ := id L5
  refine lv_iload_n hx hb dX2_held_0 rfl (lv_at hl 1 rfl) ?_
  exact x_callSx (rest := []) B hex F G (c_X2_checkNode_bad l hst Cx.2.2 V x h) (va_cwS 1 B.1.2.2.2.2 gX2_held_X2_checkNode rfl rfl rfl (by decide +kernel) ⟨Nat.le_of_ble_eq_true rfl, Nat.le_of_ble_eq_true rfl⟩) rfl hl.1 rfl (Nat.le_of_ble_eq_true rfl) ⟨Nat.le_refl _, Nat.le_refl _⟩ dX2_held_1
set_option maxHeartbeats 4000000 in
set_option maxRecDepth 100000 in
theorem c_X2_dropped_bad (l : Launch) (hst : l.stackTraces = false) {D : va_G} {sh : xS} {ad : Nat → Nat} {cI cZ cO : ClassId} {tys : List (ClassId × FieldType)} {nb : Nat} {od : Nat → Nat} (DL : xDl sh ad cI cZ cO tys nb od) {sa : Nat → Nat} (V : xV) (h4 : V 4 2 = nI nb) (h5 : V 5 2 = nI nb) (x : Int32) (h : ¬ (0 ≤ x ∧ x ≤ 7)) : xMx l yX2_dropped wsX2_dropped (rmX 4) D sh ad tys sa V [.ref (ad 0), .int x] eIO V := by
  refine xOfx (cc := cX2_dropped) (nL := 2) (ret := some .int) (own := RX2) (by decide) rfl rfl (Nat.le_of_ble_eq_true rfl) DL.2.2.2.2.2.2.1.2.2 ?_
  intro p e s m args below meth c A ls B hex F G hl
  have hx := B.1.1
  have hb := B.1.2.1
  have hin2 : ∀ w ∈ wsX20, w ∈ wsX2_dropped := by decide +kernel
  have hl : lv_has ls 2 [(0, .ref (ad 0)), (1, .int x)] := hl
  obtain ⟨Dl, Pl, L4, L5, Bs, od_lt, Cx, tO, hn40⟩ := id DL
  obtain ⟨a4, s4, -⟩ := id L4
  obtain ⟨a5, s5, -⟩ := id L5
  refine lv_iload_n hx hb dX2_dropped_0 rfl (lv_at hl 1 rfl) ?_
  exact x_callSx (rest := []) B hex F G (c_X2_checkNode_bad l hst Cx.2.2 V x h) (va_cwS 1 B.1.2.2.2.2 gX2_dropped_X2_checkNode rfl rfl rfl (by decide +kernel) ⟨Nat.le_of_ble_eq_true rfl, Nat.le_of_ble_eq_true rfl⟩) rfl hl.1 rfl (Nat.le_of_ble_eq_true rfl) ⟨Nat.le_refl _, Nat.le_refl _⟩ dX2_dropped_1
set_option maxHeartbeats 4000000 in
set_option maxRecDepth 100000 in
theorem c_X2_refused_bad (l : Launch) (hst : l.stackTraces = false) {D : va_G} {sh : xS} {ad : Nat → Nat} {cI cZ cO : ClassId} {tys : List (ClassId × FieldType)} {nb : Nat} {od : Nat → Nat} (DL : xDl sh ad cI cZ cO tys nb od) {sa : Nat → Nat} (V : xV) (h4 : V 4 2 = nI nb) (h5 : V 5 2 = nI nb) (x : Int32) (h : ¬ (0 ≤ x ∧ x ≤ 7)) : xMx l yX2_refused wsX2_refused (rmX 4) D sh ad tys sa V [.ref (ad 0), .int x] eIO V := by
  refine xOfx (cc := cX2_refused) (nL := 2) (ret := some .int) (own := RX2) (by decide) rfl rfl (Nat.le_of_ble_eq_true rfl) DL.2.2.2.2.2.2.1.2.2 ?_
  intro p e s m args below meth c A ls B hex F G hl
  have hx := B.1.1
  have hb := B.1.2.1
  have hin2 : ∀ w ∈ wsX20, w ∈ wsX2_refused := by decide +kernel
  have hl : lv_has ls 2 [(0, .ref (ad 0)), (1, .int x)] := hl
  obtain ⟨Dl, Pl, L4, L5, Bs, od_lt, Cx, tO, hn40⟩ := id DL
  obtain ⟨a4, s4, -⟩ := id L4
  obtain ⟨a5, s5, -⟩ := id L5
  refine lv_iload_n hx hb dX2_refused_0 rfl (lv_at hl 1 rfl) ?_
  exact x_callSx (rest := []) B hex F G (c_X2_checkNode_bad l hst Cx.2.2 V x h) (va_cwS 1 B.1.2.2.2.2 gX2_refused_X2_checkNode rfl rfl rfl (by decide +kernel) ⟨Nat.le_of_ble_eq_true rfl, Nat.le_of_ble_eq_true rfl⟩) rfl hl.1 rfl (Nat.le_of_ble_eq_true rfl) ⟨Nat.le_refl _, Nat.le_refl _⟩ dX2_refused_1
set_option maxHeartbeats 4000000 in
set_option maxRecDepth 100000 in
theorem c_X2_copies_bad2 (l : Launch) (hst : l.stackTraces = false) {D : va_G} {sh : xS} {ad : Nat → Nat} {cI cZ cO : ClassId} {tys : List (ClassId × FieldType)} {nb : Nat} {od : Nat → Nat} (DL : xDl sh ad cI cZ cO tys nb od) {sa : Nat → Nat} (V : xV) (h4 : V 4 2 = nI nb) (h5 : V 5 2 = nI nb) (n : Nat) (hn : n < 8) (x : Int32) (h : ¬ (0 ≤ x ∧ x < nI nb)) : xMx l yX2_copies wsX2_copies (rmX 4) D sh ad tys sa V [.ref (ad 0), .int (nI n), .int x] eIO V := by
  refine xOfx (cc := cX2_copies) (nL := 3) (ret := some .int) (own := RX2) (by decide) rfl rfl (Nat.le_of_ble_eq_true rfl) DL.2.2.2.2.2.2.1.2.2 ?_
  intro p e s m args below meth c A ls B hex F G hl
  have hx := B.1.1
  have hb := B.1.2.1
  have hin0 : ∀ w ∈ wsX00, w ∈ wsX2_copies := by decide +kernel
  have hin2 : ∀ w ∈ wsX20, w ∈ wsX2_copies := by decide +kernel
  have hinL : ∀ w ∈ wsJx4a65c0, w ∈ wsX2_copies := by decide +kernel
  have hl : lv_has ls 3 [(0, .ref (ad 0)), (1, .int (nI n)), (2, .int x)] := hl
  obtain ⟨Dl, Pl, L4, L5, Bs, od_lt, Cx, tO, hn40⟩ := id DL
  obtain ⟨a4, s4, -⟩ := id L4
  obtain ⟨a5, s5, -⟩ := id L5
  refine lv_iload_n hx hb dX2_copies_0 rfl (lv_at hl 1 rfl) ?_
  refine x_callSv (rest := []) B G (c_X2_checkNode_ok l Cx.2.2 V n hn) (va_cwS 1 B.1.2.2.2.2 gX2_copies_X2_checkNode rfl rfl rfl (by decide +kernel) ⟨Nat.le_of_ble_eq_true rfl, Nat.le_of_ble_eq_true rfl⟩) rfl hl.1 rfl (Nat.le_of_ble_eq_true rfl) ⟨Nat.zero_le _, Nat.zero_le _⟩ dX2_copies_1 (fun H locs G => ?_)
  refine lv_aload_n hx hb dX2_copies_4 rfl (lv_at hl 0 rfl) ?_
  refine lv_iload_n hx hb dX2_copies_5 rfl (lv_at hl 2 rfl) ?_
  exact x_callVx (rest := []) B hex F G (c_X2_numbered_bad l hst DL V h4 h5 x h) (cwV 1 B.1.2.2.2.2 gX2_copies_X2_numbered rfl rfl rfl (by decide +kernel) ⟨Nat.le_of_ble_eq_true rfl, Nat.le_of_ble_eq_true rfl⟩) (d_recv B G Dl) rfl hl.1 rfl (Nat.le_of_ble_eq_true rfl) ⟨Nat.le_refl _, Nat.le_refl _⟩ dX2_copies_6
set_option maxHeartbeats 4000000 in
set_option maxRecDepth 100000 in
theorem c_X2_knows_bad2 (l : Launch) (hst : l.stackTraces = false) {D : va_G} {sh : xS} {ad : Nat → Nat} {cI cZ cO : ClassId} {tys : List (ClassId × FieldType)} {nb : Nat} {od : Nat → Nat} (DL : xDl sh ad cI cZ cO tys nb od) {sa : Nat → Nat} (V : xV) (h4 : V 4 2 = nI nb) (h5 : V 5 2 = nI nb) (n : Nat) (hn : n < 8) (x : Int32) (h : ¬ (0 ≤ x ∧ x < nI nb)) : xMx l yX2_knows wsX2_knows (rmX 4) D sh ad tys sa V [.ref (ad 0), .int (nI n), .int x] eIO V := by
  refine xOfx (cc := cX2_knows) (nL := 3) (ret := some .boolean) (own := RX2) (by decide) rfl rfl (Nat.le_of_ble_eq_true rfl) DL.2.2.2.2.2.2.1.2.2 ?_
  intro p e s m args below meth c A ls B hex F G hl
  have hx := B.1.1
  have hb := B.1.2.1
  have hin0 : ∀ w ∈ wsX00, w ∈ wsX2_knows := by decide +kernel
  have hin2 : ∀ w ∈ wsX20, w ∈ wsX2_knows := by decide +kernel
  have hinL : ∀ w ∈ wsJx4a65c0, w ∈ wsX2_knows := by decide +kernel
  have hl : lv_has ls 3 [(0, .ref (ad 0)), (1, .int (nI n)), (2, .int x)] := hl
  obtain ⟨Dl, Pl, L4, L5, Bs, od_lt, Cx, tO, hn40⟩ := id DL
  obtain ⟨a4, s4, -⟩ := id L4
  obtain ⟨a5, s5, -⟩ := id L5
  refine lv_iload_n hx hb dX2_knows_0 rfl (lv_at hl 1 rfl) ?_
  refine x_callSv (rest := []) B G (c_X2_checkNode_ok l Cx.2.2 V n hn) (va_cwS 1 B.1.2.2.2.2 gX2_knows_X2_checkNode rfl rfl rfl (by decide +kernel) ⟨Nat.le_of_ble_eq_true rfl, Nat.le_of_ble_eq_true rfl⟩) rfl hl.1 rfl (Nat.le_of_ble_eq_true rfl) ⟨Nat.zero_le _, Nat.zero_le _⟩ dX2_knows_1 (fun H locs G => ?_)
  refine lv_aload_n hx hb dX2_knows_4 rfl (lv_at hl 0 rfl) ?_
  refine lv_iload_n hx hb dX2_knows_5 rfl (lv_at hl 2 rfl) ?_
  exact x_callVx (rest := []) B hex F G (c_X2_numbered_bad l hst DL V h4 h5 x h) (cwV 1 B.1.2.2.2.2 gX2_knows_X2_numbered rfl rfl rfl (by decide +kernel) ⟨Nat.le_of_ble_eq_true rfl, Nat.le_of_ble_eq_true rfl⟩) (d_recv B G Dl) rfl hl.1 rfl (Nat.le_of_ble_eq_true rfl) ⟨Nat.le_refl _, Nat.le_refl _⟩ dX2_knows_6
set_option maxHeartbeats 4000000 in
set_option maxRecDepth 100000 in
theorem c_X2_arrival_bad2 (l : Launch) (hst : l.stackTraces = false) {D : va_G} {sh : xS} {ad : Nat → Nat} {cI cZ cO : ClassId} {tys : List (ClassId × FieldType)} {nb : Nat} {od : Nat → Nat} (DL : xDl sh ad cI cZ cO tys nb od) {sa : Nat → Nat} (V : xV) (h4 : V 4 2 = nI nb) (h5 : V 5 2 = nI nb) (n : Nat) (hn : n < 8) (x : Int32) (h : ¬ (0 ≤ x ∧ x ≤ 7)) : xMx l yX2_arrival wsX2_arrival (rmX 4) D sh ad tys sa V [.ref (ad 0), .int (nI n), .int x] eIO V := by
  refine xOfx (cc := cX2_arrival) (nL := 3) (ret := some .int) (own := RX2) (by decide) rfl rfl (Nat.le_of_ble_eq_true rfl) DL.2.2.2.2.2.2.1.2.2 ?_
  intro p e s m args below meth c A ls B hex F G hl
  have hx := B.1.1
  have hb := B.1.2.1
  have hin1 : ∀ w ∈ wsX10, w ∈ wsX2_arrival := by decide +kernel
  have hin2 : ∀ w ∈ wsX20, w ∈ wsX2_arrival := by decide +kernel
  have hl : lv_has ls 3 [(0, .ref (ad 0)), (1, .int (nI n)), (2, .int x)] := hl
  obtain ⟨Dl, Pl, L4, L5, Bs, od_lt, Cx, tO, hn40⟩ := id DL
  obtain ⟨a4, s4, -⟩ := id L4
  obtain ⟨a5, s5, -⟩ := id L5
  refine lv_iload_n hx hb dX2_arrival_0 rfl (lv_at hl 1 rfl) ?_
  refine x_callSv (rest := []) B G (c_X2_checkNode_ok l Cx.2.2 V n hn) (va_cwS 1 B.1.2.2.2.2 gX2_arrival_X2_checkNode rfl rfl rfl (by decide +kernel) ⟨Nat.le_of_ble_eq_true rfl, Nat.le_of_ble_eq_true rfl⟩) rfl hl.1 rfl (Nat.le_of_ble_eq_true rfl) ⟨Nat.zero_le _, Nat.zero_le _⟩ dX2_arrival_1 (fun H locs G => ?_)
  refine lv_iload_n hx hb dX2_arrival_4 rfl (lv_at hl 2 rfl) ?_
  exact x_callSx (rest := []) B hex F G (c_X2_checkNode_bad l hst Cx.2.2 V x h) (va_cwS 1 B.1.2.2.2.2 gX2_arrival_X2_checkNode rfl rfl rfl (by decide +kernel) ⟨Nat.le_of_ble_eq_true rfl, Nat.le_of_ble_eq_true rfl⟩) rfl hl.1 rfl (Nat.le_of_ble_eq_true rfl) ⟨Nat.le_refl _, Nat.le_refl _⟩ dX2_arrival_5
set_option maxHeartbeats 4000000 in
set_option maxRecDepth 100000 in
theorem c_X2_arrivalByRounds_bad2 (l : Launch) (hst : l.stackTraces = false) {D : va_G} {sh : xS} {ad : Nat → Nat} {cI cZ cO : ClassId} {tys : List (ClassId × FieldType)} {nb : Nat} {od : Nat → Nat} (DL : xDl sh ad cI cZ cO tys nb od) {sa : Nat → Nat} (V : xV) (h4 : V 4 2 = nI nb) (h5 : V 5 2 = nI nb) (n : Nat) (hn : n < 8) (x : Int32) (h : ¬ (0 ≤ x ∧ x ≤ 7)) : xMx l yX2_arrivalByRounds wsX2_arrivalByRounds (rmX 4) D sh ad tys sa V [.ref (ad 0), .int (nI n), .int x] eIO V := by
  refine xOfx (cc := cX2_arrivalByRounds) (nL := 3) (ret := some .int) (own := RX2) (by decide) rfl rfl (Nat.le_of_ble_eq_true rfl) DL.2.2.2.2.2.2.1.2.2 ?_
  intro p e s m args below meth c A ls B hex F G hl
  have hx := B.1.1
  have hb := B.1.2.1
  have hin1 : ∀ w ∈ wsX10, w ∈ wsX2_arrivalByRounds := by decide +kernel
  have hin2 : ∀ w ∈ wsX20, w ∈ wsX2_arrivalByRounds := by decide +kernel
  have hl : lv_has ls 3 [(0, .ref (ad 0)), (1, .int (nI n)), (2, .int x)] := hl
  obtain ⟨Dl, Pl, L4, L5, Bs, od_lt, Cx, tO, hn40⟩ := id DL
  obtain ⟨a4, s4, -⟩ := id L4
  obtain ⟨a5, s5, -⟩ := id L5
  refine lv_iload_n hx hb dX2_arrivalByRounds_0 rfl (lv_at hl 1 rfl) ?_
  refine x_callSv (rest := []) B G (c_X2_checkNode_ok l Cx.2.2 V n hn) (va_cwS 1 B.1.2.2.2.2 gX2_arrivalByRounds_X2_checkNode rfl rfl rfl (by decide +kernel) ⟨Nat.le_of_ble_eq_true rfl, Nat.le_of_ble_eq_true rfl⟩) rfl hl.1 rfl (Nat.le_of_ble_eq_true rfl) ⟨Nat.zero_le _, Nat.zero_le _⟩ dX2_arrivalByRounds_1 (fun H locs G => ?_)
  refine lv_iload_n hx hb dX2_arrivalByRounds_4 rfl (lv_at hl 2 rfl) ?_
  exact x_callSx (rest := []) B hex F G (c_X2_checkNode_bad l hst Cx.2.2 V x h) (va_cwS 1 B.1.2.2.2.2 gX2_arrivalByRounds_X2_checkNode rfl rfl rfl (by decide +kernel) ⟨Nat.le_of_ble_eq_true rfl, Nat.le_of_ble_eq_true rfl⟩) rfl hl.1 rfl (Nat.le_of_ble_eq_true rfl) ⟨Nat.le_refl _, Nat.le_refl _⟩ dX2_arrivalByRounds_5
set_option maxHeartbeats 4000000 in
set_option maxRecDepth 100000 in
theorem c_X2_heldAt_bad2 (l : Launch) (hst : l.stackTraces = false) {D : va_G} {sh : xS} {ad : Nat → Nat} {cI cZ cO : ClassId} {tys : List (ClassId × FieldType)} {nb : Nat} {od : Nat → Nat} (DL : xDl sh ad cI cZ cO tys nb od) {sa : Nat → Nat} (V : xV) (h4 : V 4 2 = nI nb) (h5 : V 5 2 = nI nb) (n : Nat) (x : Int32) (hn : n < 8) (hno : ∀ i, i < nb → 0 < V (20 + 4 * od i + 1) n → ¬ nI (cntP (cHasO V od n) i) = x) : xMx l yX2_heldAt wsX2_heldAt (rmX 4) D sh ad tys sa V [.ref (ad 0), .int (nI n), .int x] eIO V := by
  refine xOfx (cc := cX2_heldAt) (nL := 6) (ret := some .int) (own := RX2) (by decide) rfl rfl (Nat.le_of_ble_eq_true rfl) DL.2.2.2.2.2.2.1.2.2 ?_
  intro p e s m args below meth c A ls B hex F G hl
  have hx := B.1.1
  have hb := B.1.2.1
  have hin0 : ∀ w ∈ wsX00, w ∈ wsX2_heldAt := by decide +kernel
  have hin2 : ∀ w ∈ wsX20, w ∈ wsX2_heldAt := by decide +kernel
  have hinL : ∀ w ∈ wsJx4a65c0, w ∈ wsX2_heldAt := by decide +kernel
  have hl : lv_has ls 6 [(0, .ref (ad 0)), (1, .int (nI n)), (2, .int x)] := hl
  obtain ⟨Dl, Pl, L4, L5, Bs, od_lt, Cx, tO, hn40⟩ := id DL
  obtain ⟨a4, s4, -⟩ := id L4
  obtain ⟨a5, s5, -⟩ := id L5
  refine lv_iload_n hx hb dX2_heldAt_0 rfl (lv_at hl 1 rfl) ?_
  refine x_callSv (rest := []) B G (c_X2_checkNode_ok l Cx.2.2 V n hn) (va_cwS 1 B.1.2.2.2.2 gX2_heldAt_X2_checkNode rfl rfl rfl (by decide +kernel) ⟨Nat.le_of_ble_eq_true rfl, Nat.le_of_ble_eq_true rfl⟩) rfl hl.1 rfl (Nat.le_of_ble_eq_true rfl) ⟨Nat.zero_le _, Nat.zero_le _⟩ dX2_heldAt_1 (fun H locs G => ?_)
  refine lv_iconst (v := 0) hx hb dX2_heldAt_4 (by decide) ?_
  refine lv_istore_n (lv' := [(3, .int 0), (0, .ref (ad 0)), (1, .int (nI n)), (2, .int x)]) hx hb dX2_heldAt_5 rfl hl (by decide) rfl (fun ls hl => ?_)
  refine lv_iconst (v := 0) hx hb dX2_heldAt_6 (by decide) ?_
  refine lv_istore (lv' := [(4, .int 0), (3, .int 0), (0, .ref (ad 0)), (1, .int (nI n)), (2, .int x)]) hx hb dX2_heldAt_7 hl (by decide) rfl (fun ls hl => ?_)
  have loop_9 : ∀ (f i : Nat), i ≤ nb → nb < i + f → ∀ (H : Heap) (locs : List Loc) (ls : Array Slot), xG D sh ad A s.heap V H locs → lv_has ls 6 [(0, .ref (ad 0)), (1, .int (nI n)), (2, .int x), (3, .int (nI (cntP (cHasO V od n) i))), (4, .int (nI i))] → W p l e (rmX 4) s m args below meth c H locs 0 0 (xQx below D sh ad tys A args s eIO V) (F0 m 9 ls []) := by
    intro f
    induction f with
    | zero => intro i h1 h2; exact absurd h2 (by omega)
    | succ f ih_9 =>
      intro i hi hf H locs ls G hl
      refine lv_iload hx hb dX2_heldAt_9 (lv_at hl 4 rfl) ?_
      refine lv_aload_n hx hb dX2_heldAt_11 rfl (lv_at hl 0 rfl) ?_
      refine d_getA B G Dl hin2 5 (by decide) (by decide +kernel) dX2_heldAt_12 ?_
      refine x_callVi (rest := [.int (nI i)]) B G (c_size l Cx.2.2 V 5 s5) (cwV 0 B.1.2.2.2.2 gX2_heldAt_Jx4a65c_size_8abf5 rfl rfl rfl (by decide +kernel) ⟨Nat.le_of_ble_eq_true rfl, Nat.le_of_ble_eq_true rfl⟩) (l_recv B G 5 s5) rfl hl.1 rfl (Nat.le_of_ble_eq_true rfl) ⟨Nat.zero_le _, Nat.zero_le _⟩ dX2_heldAt_15 (fun H locs G => ?_)
      refine x_top (show _ = nI nb from h5) ?_
      refine lv_icmp_ge (tgt := 64) hx hb dX2_heldAt_18 (by decide) (fun c_18 => ?_) (fun c_18 => ?_)
      · skip
        have c_18 : nb ≤ i := (nI_leI (a := nb) (b := i) (by omega) (by omega)).mp c_18
        exact x_throw (cls := eIO) (text := "the node does not have so many") (ik := 44) (is := 174) (ic := 48) B hex F G hst (rfl) (by decide +kernel) (by decide +kernel) (by decide +kernel) (by decide +kernel) (by decide +kernel) (by decide +kernel) (by decide +kernel) hl.1 dX2_heldAt_64 dX2_heldAt_67 dX2_heldAt_68 dX2_heldAt_70 dX2_heldAt_73 (by decide)
      · skip
        have c_18 : ¬ (nb ≤ i) := fun h9 => c_18 ((nI_leI (a := nb) (b := i) (by omega) (by omega)).mpr h9)
        refine lv_aload_n hx hb dX2_heldAt_21 rfl (lv_at hl 0 rfl) ?_
        refine d_getA B G Dl hin2 5 (by decide) (by decide +kernel) dX2_heldAt_22 ?_
        refine lv_iload hx hb dX2_heldAt_25 (lv_at hl 4 rfl) ?_
        refine x_callVq (rest := []) B G (c_get l tO Cx.2.2 V L5 i (by omega) (by omega) h5) (cwV 1 B.1.2.2.2.2 gX2_heldAt_Jx4a65c_get_915e3 rfl rfl rfl (by decide +kernel) ⟨Nat.le_of_ble_eq_true rfl, Nat.le_of_ble_eq_true rfl⟩) (l_recv B G 5 s5) rfl hl.1 rfl (Nat.le_of_ble_eq_true rfl) ⟨Nat.zero_le _, Nat.zero_le _⟩ dX2_heldAt_27 (fun H locs G => ?_)
        refine x_cast B G (20 + 4 * od i) (Bs (od i) (od_lt i (by omega))).1 (q := (RX0, TX0, 11)) rfl (by decide +kernel) dX2_heldAt_30 ?_
        refine lv_astore (lv' := [(5, .ref (ad (20 + 4 * od i))), (0, .ref (ad 0)), (1, .int (nI n)), (2, .int x), (3, .int (nI (cntP (cHasO V od n) i))), (4, .int (nI i))]) hx hb dX2_heldAt_33 hl (by decide) rfl (fun ls hl => ?_)
        refine lv_aload hx hb dX2_heldAt_35 (lv_at hl 0 rfl) ?_
        refine lv_iload_n hx hb dX2_heldAt_37 rfl (lv_at hl 2 rfl) ?_
        refine x_callVi (rest := []) B G (c_X0_isAt l Cx V (20 + 4 * od i) (Bs (od i) (od_lt i (by omega))) n (by omega)) (cwV 1 B.1.2.2.2.2 gX2_heldAt_X0_isAt rfl rfl rfl (by decide +kernel) ⟨Nat.le_of_ble_eq_true rfl, Nat.le_of_ble_eq_true rfl⟩) (b_recv B G (Bs (od i) (od_lt i (by omega)))) rfl hl.1 rfl (Nat.le_of_ble_eq_true rfl) ⟨Nat.zero_le _, Nat.zero_le _⟩ dX2_heldAt_38 (fun H locs G => ?_)
        refine lv_if_eq (tgt := 58) hx hb dX2_heldAt_41 (by decide) (fun c_41 => ?_) (fun c_41 => ?_)
        · skip
          refine lv_iinc (v := nI (i + 1)) (lv' := [(4, .int (nI (i + 1))), (5, .ref (ad (20 + 4 * od i))), (0, .ref (ad 0)), (1, .int (nI n)), (2, .int x), (3, .int (nI (cntP (cHasO V od n) i)))]) hx hb dX2_heldAt_58 hl (k := 5) rfl (nI_add i 1) (by decide) rfl (fun ls hl => ?_)
          refine lv_goto (tgt := 9) hx hb dX2_heldAt_61 (by decide) ?_
          have hl := lv_sub (l' := [(0, .ref (ad 0)), (1, .int (nI n)), (2, .int x), (3, .int (nI (cntP (cHasO V od n) i))), (4, .int (nI (i + 1)))]) hl [2, 3, 4, 5, 0] rfl
          have hl := lv_cast hl (congrArg (fun z : Int32 => ([(0, .ref (ad 0)), (1, .int (nI n)), (2, .int x), (3, .int z), (4, .int (nI (i + 1)))] : List (Nat × Value))) (show (nI (cntP (cHasO V od n) i)) = (nI (cntP (cHasO V od n) (i + 1))) from congrArg nI (cntP_f (P := cHasO V od n) (fun z => b2i_0.mp c_41 (of_decide_eq_true z))).symm))
          exact ih_9 (i + 1) (by omega) (by omega) _ _ _ G hl
        · skip
          refine lv_iload_n hx hb dX2_heldAt_44 rfl (lv_at hl 4 rfl) ?_
          refine lv_iload_n hx hb dX2_heldAt_45 rfl (lv_at hl 3 rfl) ?_
          refine lv_icmp_ne (tgt := 55) hx hb dX2_heldAt_46 (by decide) (fun c_46 => ?_) (fun c_46 => ?_)
          · skip
            refine lv_iinc (v := nI (cntP (cHasO V od n) i + 1)) (lv' := [(3, .int (nI (cntP (cHasO V od n) i + 1))), (5, .ref (ad (20 + 4 * od i))), (0, .ref (ad 0)), (1, .int (nI n)), (2, .int x), (4, .int (nI i))]) hx hb dX2_heldAt_55 hl (k := 4) rfl (nI_add (cntP (cHasO V od n) i) 1) (by decide) rfl (fun ls hl => ?_)
            refine lv_iinc (v := nI (i + 1)) (lv' := [(4, .int (nI (i + 1))), (3, .int (nI (cntP (cHasO V od n) i + 1))), (5, .ref (ad (20 + 4 * od i))), (0, .ref (ad 0)), (1, .int (nI n)), (2, .int x)]) hx hb dX2_heldAt_58 hl (k := 5) rfl (nI_add i 1) (by decide) rfl (fun ls hl => ?_)
            refine lv_goto (tgt := 9) hx hb dX2_heldAt_61 (by decide) ?_
            have hl := lv_sub (l' := [(0, .ref (ad 0)), (1, .int (nI n)), (2, .int x), (3, .int (nI (cntP (cHasO V od n) i + 1))), (4, .int (nI (i + 1)))]) hl [3, 4, 5, 1, 0] rfl
            have hl := lv_cast hl (congrArg (fun z : Int32 => ([(0, .ref (ad 0)), (1, .int (nI n)), (2, .int x), (3, .int z), (4, .int (nI (i + 1)))] : List (Nat × Value))) (show (nI (cntP (cHasO V od n) i + 1)) = (nI (cntP (cHasO V od n) (i + 1))) from congrArg nI (cntP_t (P := cHasO V od n) (decide_eq_true (b2i_1 c_41))).symm))
            exact ih_9 (i + 1) (by omega) (by omega) _ _ _ G hl
          · skip
            exact absurd c_46 (hno i (by omega) (b2i_1 c_41))
  have hl := lv_sub (l' := [(0, .ref (ad 0)), (1, .int (nI n)), (2, .int x), (3, .int 0), (4, .int 0)]) hl [2, 3, 4, 1, 0] rfl
  have hl := lv_cast hl (congrArg (fun z : Int32 => ([(0, .ref (ad 0)), (1, .int (nI n)), (2, .int x), (3, .int z), (4, .int 0)] : List (Nat × Value))) (show 0 = (nI (cntP (cHasO V od n) 0)) from rfl))
  have hl := lv_cast hl (congrArg (fun z : Int32 => ([(0, .ref (ad 0)), (1, .int (nI n)), (2, .int x), (3, .int (nI (cntP (cHasO V od n) 0))), (4, .int z)] : List (Nat × Value))) (show 0 = (nI 0) from rfl))
  exact loop_9 (nb + 1) 0 (by omega) (by omega) _ _ _ G hl
set_option maxHeartbeats 4000000 in
set_option maxRecDepth 100000 in
theorem c_X2_setBuffer_bad1 (l : Launch) (hst : l.stackTraces = false) {D : va_G} {sh : xS} {ad : Nat → Nat} {cI cZ cO : ClassId} {tys : List (ClassId × FieldType)} {nb : Nat} {od : Nat → Nat} (DL : xDl sh ad cI cZ cO tys nb od) {sa : Nat → Nat} (V : xV) (h4 : V 4 2 = nI nb) (h5 : V 5 2 = nI nb) (x y : Int32) (h : ¬ (0 ≤ x ∧ x ≤ 7)) : xMx l yX2_setBuffer wsX2_setBuffer (rmX 4) D sh ad tys sa V [.ref (ad 0), .int x, .int y] eIO V := by
  refine xOfx (cc := cX2_setBuffer) (nL := 4) (ret := some .int) (own := RX2) (by decide) rfl rfl (Nat.le_of_ble_eq_true rfl) DL.2.2.2.2.2.2.1.2.2 ?_
  intro p e s m args below meth c A ls B hex F G hl
  have hx := B.1.1
  have hb := B.1.2.1
  have hin0 : ∀ w ∈ wsX00, w ∈ wsX2_setBuffer := by decide +kernel
  have hin2 : ∀ w ∈ wsX20, w ∈ wsX2_setBuffer := by decide +kernel
  have hinL : ∀ w ∈ wsJx4a65c0, w ∈ wsX2_setBuffer := by decide +kernel
  have hl : lv_has ls 4 [(0, .ref (ad 0)), (1, .int x), (2, .int y)] := hl
  obtain ⟨Dl, Pl, L4, L5, Bs, od_lt, Cx, tO, hn40⟩ := id DL
  obtain ⟨a4, s4, -⟩ := id L4
  obtain ⟨a5, s5, -⟩ := id L5
  refine lv_iload_n hx hb dX2_setBuffer_0 rfl (lv_at hl 1 rfl) ?_
  refine x_callSi (rest := []) B G (c_X2_isNode l Cx.2.2 V x) (va_cwS 1 B.1.2.2.2.2 gX2_setBuffer_X2_isNode rfl rfl rfl (by decide +kernel) ⟨Nat.le_of_ble_eq_true rfl, Nat.le_of_ble_eq_true rfl⟩) rfl hl.1 rfl (Nat.le_of_ble_eq_true rfl) ⟨Nat.zero_le _, Nat.zero_le _⟩ dX2_setBuffer_1 (fun H locs G => ?_)
  refine lv_if_ne (tgt := 17) hx hb dX2_setBuffer_4 (by decide) (fun c_4 => ?_) (fun c_4 => ?_)
  · exact False.elim (c_4 (b2i_f (h)))
  · skip
    exact x_throw (cls := eIO) (text := "no such node") (ik := 44) (is := 46) (ic := 48) B hex F G hst (rfl) (by decide +kernel) (by decide +kernel) (by decide +kernel) (by decide +kernel) (by decide +kernel) (by decide +kernel) (by decide +kernel) hl.1 dX2_setBuffer_7 dX2_setBuffer_10 dX2_setBuffer_11 dX2_setBuffer_13 dX2_setBuffer_16 (by decide)
set_option maxHeartbeats 4000000 in
set_option maxRecDepth 100000 in
theorem c_X2_setBuffer_bad2 (l : Launch) (hst : l.stackTraces = false) {D : va_G} {sh : xS} {ad : Nat → Nat} {cI cZ cO : ClassId} {tys : List (ClassId × FieldType)} {nb : Nat} {od : Nat → Nat} (DL : xDl sh ad cI cZ cO tys nb od) {sa : Nat → Nat} (V : xV) (h4 : V 4 2 = nI nb) (h5 : V 5 2 = nI nb) (n : Nat) (y : Int32) (hn : n < 8) (h : ¬ (1 ≤ y ∧ y ≤ 8)) : xMx l yX2_setBuffer wsX2_setBuffer (rmX 4) D sh ad tys sa V [.ref (ad 0), .int (nI n), .int y] eIA V := by
  refine xOfx (cc := cX2_setBuffer) (nL := 4) (ret := some .int) (own := RX2) (by decide) rfl rfl (Nat.le_of_ble_eq_true rfl) DL.2.2.2.2.2.2.1.2.2 ?_
  intro p e s m args below meth c A ls B hex F G hl
  have hx := B.1.1
  have hb := B.1.2.1
  have hin0 : ∀ w ∈ wsX00, w ∈ wsX2_setBuffer := by decide +kernel
  have hin2 : ∀ w ∈ wsX20, w ∈ wsX2_setBuffer := by decide +kernel
  have hinL : ∀ w ∈ wsJx4a65c0, w ∈ wsX2_setBuffer := by decide +kernel
  have hl : lv_has ls 4 [(0, .ref (ad 0)), (1, .int (nI n)), (2, .int y)] := hl
  obtain ⟨Dl, Pl, L4, L5, Bs, od_lt, Cx, tO, hn40⟩ := id DL
  obtain ⟨a4, s4, -⟩ := id L4
  obtain ⟨a5, s5, -⟩ := id L5
  refine lv_iload_n hx hb dX2_setBuffer_0 rfl (lv_at hl 1 rfl) ?_
  refine x_callSi (rest := []) B G (c_X2_isNode l Cx.2.2 V (nI n)) (va_cwS 1 B.1.2.2.2.2 gX2_setBuffer_X2_isNode rfl rfl rfl (by decide +kernel) ⟨Nat.le_of_ble_eq_true rfl, Nat.le_of_ble_eq_true rfl⟩) rfl hl.1 rfl (Nat.le_of_ble_eq_true rfl) ⟨Nat.zero_le _, Nat.zero_le _⟩ dX2_setBuffer_1 (fun H locs G => ?_)
  refine lv_if_ne (tgt := 17) hx hb dX2_setBuffer_4 (by decide) (fun c_4 => ?_) (fun c_4 => ?_)
  · skip
    refine lv_iload_n hx hb dX2_setBuffer_17 rfl (lv_at hl 2 rfl) ?_
    refine lv_iconst (v := 1) hx hb dX2_setBuffer_18 (by decide) ?_
    refine lv_bipush (v := 8) hx hb dX2_setBuffer_19 (by decide) ?_
    refine x_callSi (rest := []) B G (c_X2_isWithin l Cx.2.2 V y 1 8) (va_cwS 3 B.1.2.2.2.2 gX2_setBuffer_X2_isWithin rfl rfl rfl (by decide +kernel) ⟨Nat.le_of_ble_eq_true rfl, Nat.le_of_ble_eq_true rfl⟩) rfl hl.1 rfl (Nat.le_of_ble_eq_true rfl) ⟨Nat.zero_le _, Nat.zero_le _⟩ dX2_setBuffer_21 (fun H locs G => ?_)
    refine lv_if_ne (tgt := 37) hx hb dX2_setBuffer_24 (by decide) (fun c_24 => ?_) (fun c_24 => ?_)
    · exact False.elim (c_24 (b2i_f (h)))
    · skip
      exact x_throw (cls := eIA) (text := "places out of range") (ik := 55) (is := 135) (ic := 59) B hex F G hst (rfl) (by decide +kernel) (by decide +kernel) (by decide +kernel) (by decide +kernel) (by decide +kernel) (by decide +kernel) (by decide +kernel) hl.1 dX2_setBuffer_27 dX2_setBuffer_30 dX2_setBuffer_31 dX2_setBuffer_33 dX2_setBuffer_36 (by decide)
  · exact False.elim (b2i_0.mp c_4 (nodeOK hn))
set_option maxHeartbeats 4000000 in
set_option maxRecDepth 100000 in
theorem c_X2_setBuffer_bad3 (l : Launch) (hst : l.stackTraces = false) {D : va_G} {sh : xS} {ad : Nat → Nat} {cI cZ cO : ClassId} {tys : List (ClassId × FieldType)} {nb : Nat} {od : Nat → Nat} (DL : xDl sh ad cI cZ cO tys nb od) {sa : Nat → Nat} (V : xV) (h4 : V 4 2 = nI nb) (h5 : V 5 2 = nI nb) (n : Nat) (y : Int32) (hn : n < 8) (h1 : 1 ≤ y ∧ y ≤ 8) (h : ¬ nI (cntP (cHas V n) nb) ≤ y) : xMx l yX2_setBuffer wsX2_setBuffer (rmX 4) D sh ad tys sa V [.ref (ad 0), .int (nI n), .int y] eIS V := by
  refine xOfx (cc := cX2_setBuffer) (nL := 4) (ret := some .int) (own := RX2) (by decide) rfl rfl (Nat.le_of_ble_eq_true rfl) DL.2.2.2.2.2.2.1.2.2 ?_
  intro p e s m args below meth c A ls B hex F G hl
  have hx := B.1.1
  have hb := B.1.2.1
  have hin0 : ∀ w ∈ wsX00, w ∈ wsX2_setBuffer := by decide +kernel
  have hin2 : ∀ w ∈ wsX20, w ∈ wsX2_setBuffer := by decide +kernel
  have hinL : ∀ w ∈ wsJx4a65c0, w ∈ wsX2_setBuffer := by decide +kernel
  have hl : lv_has ls 4 [(0, .ref (ad 0)), (1, .int (nI n)), (2, .int y)] := hl
  obtain ⟨Dl, Pl, L4, L5, Bs, od_lt, Cx, tO, hn40⟩ := id DL
  obtain ⟨a4, s4, -⟩ := id L4
  obtain ⟨a5, s5, -⟩ := id L5
  refine lv_iload_n hx hb dX2_setBuffer_0 rfl (lv_at hl 1 rfl) ?_
  refine x_callSi (rest := []) B G (c_X2_isNode l Cx.2.2 V (nI n)) (va_cwS 1 B.1.2.2.2.2 gX2_setBuffer_X2_isNode rfl rfl rfl (by decide +kernel) ⟨Nat.le_of_ble_eq_true rfl, Nat.le_of_ble_eq_true rfl⟩) rfl hl.1 rfl (Nat.le_of_ble_eq_true rfl) ⟨Nat.zero_le _, Nat.zero_le _⟩ dX2_setBuffer_1 (fun H locs G => ?_)
  refine lv_if_ne (tgt := 17) hx hb dX2_setBuffer_4 (by decide) (fun c_4 => ?_) (fun c_4 => ?_)
  · skip
    refine lv_iload_n hx hb dX2_setBuffer_17 rfl (lv_at hl 2 rfl) ?_
    refine lv_iconst (v := 1) hx hb dX2_setBuffer_18 (by decide) ?_
    refine lv_bipush (v := 8) hx hb dX2_setBuffer_19 (by decide) ?_
    refine x_callSi (rest := []) B G (c_X2_isWithin l Cx.2.2 V y 1 8) (va_cwS 3 B.1.2.2.2.2 gX2_setBuffer_X2_isWithin rfl rfl rfl (by decide +kernel) ⟨Nat.le_of_ble_eq_true rfl, Nat.le_of_ble_eq_true rfl⟩) rfl hl.1 rfl (Nat.le_of_ble_eq_true rfl) ⟨Nat.zero_le _, Nat.zero_le _⟩ dX2_setBuffer_21 (fun H locs G => ?_)
    refine lv_if_ne (tgt := 37) hx hb dX2_setBuffer_24 (by decide) (fun c_24 => ?_) (fun c_24 => ?_)
    · skip
      refine lv_aload_n hx hb dX2_setBuffer_37 rfl (lv_at hl 0 rfl) ?_
      refine lv_iload_n hx hb dX2_setBuffer_38 rfl (lv_at hl 1 rfl) ?_
      refine x_callVi (rest := []) B G (c_X2_countAt l DL V h4 h5 n hn) (cwV 1 B.1.2.2.2.2 gX2_setBuffer_X2_countAt rfl rfl rfl (by decide +kernel) ⟨Nat.le_of_ble_eq_true rfl, Nat.le_of_ble_eq_true rfl⟩) (d_recv B G Dl) rfl hl.1 rfl (Nat.le_of_ble_eq_true rfl) ⟨Nat.zero_le _, Nat.zero_le _⟩ dX2_setBuffer_39 (fun H locs G => ?_)
      refine lv_iload_n hx hb dX2_setBuffer_42 rfl (lv_at hl 2 rfl) ?_
      refine lv_icmp_le (tgt := 56) hx hb dX2_setBuffer_43 (by decide) (fun c_43 => ?_) (fun c_43 => ?_)
      · exact False.elim (h c_43)
      · skip
        exact x_throw (cls := eIS) (text := "the node has more bundles") (ik := 64) (is := 141) (ic := 68) B hex F G hst (rfl) (by decide +kernel) (by decide +kernel) (by decide +kernel) (by decide +kernel) (by decide +kernel) (by decide +kernel) (by decide +kernel) hl.1 dX2_setBuffer_46 dX2_setBuffer_49 dX2_setBuffer_50 dX2_setBuffer_52 dX2_setBuffer_55 (by decide)
    · exact False.elim (b2i_0.mp c_24 (h1))
  · exact False.elim (b2i_0.mp c_4 (nodeOK hn))
set_option maxHeartbeats 4000000 in
set_option maxRecDepth 100000 in
theorem c_X2_addContact_bad1 (l : Launch) (hst : l.stackTraces = false) {D : va_G} {sh : xS} {ad : Nat → Nat} {cI cZ cO : ClassId} {tys : List (ClassId × FieldType)} {nb : Nat} {od : Nat → Nat} (DL : xDl sh ad cI cZ cO tys nb od) {sa : Nat → Nat} (V : xV) (h4 : V 4 2 = nI nb) (h5 : V 5 2 = nI nb) (x y f g : Int32) (h : ¬ ((0 ≤ x ∧ x ≤ 7) ∧ (0 ≤ y ∧ y ≤ 7))) : xMx l yX2_addContact wsX2_addContact (rmX 4) D sh ad tys sa V [.ref (ad 0), .int x, .int y, .int f, .int g] eIO V := by
  refine xOfx (cc := cX2_addContact) (nL := 5) (ret := some .int) (own := RX2) (by decide) rfl rfl (Nat.le_of_ble_eq_true rfl) DL.2.2.2.2.2.2.1.2.2 ?_
  intro p e s m args below meth c A ls B hex F G hl
  have hx := B.1.1
  have hb := B.1.2.1
  have hin1 : ∀ w ∈ wsX10, w ∈ wsX2_addContact := by decide +kernel
  have hin2 : ∀ w ∈ wsX20, w ∈ wsX2_addContact := by decide +kernel
  have hl : lv_has ls 5 [(0, .ref (ad 0)), (1, .int x), (2, .int y), (3, .int f), (4, .int g)] := hl
  obtain ⟨Dl, Pl, L4, L5, Bs, od_lt, Cx, tO, hn40⟩ := id DL
  obtain ⟨a4, s4, -⟩ := id L4
  obtain ⟨a5, s5, -⟩ := id L5
  refine lv_iload_n hx hb dX2_addContact_0 rfl (lv_at hl 1 rfl) ?_
  refine x_callSi (rest := []) B G (c_X2_isNode l Cx.2.2 V x) (va_cwS 1 B.1.2.2.2.2 gX2_addContact_X2_isNode rfl rfl rfl (by decide +kernel) ⟨Nat.le_of_ble_eq_true rfl, Nat.le_of_ble_eq_true rfl⟩) rfl hl.1 rfl (Nat.le_of_ble_eq_true rfl) ⟨Nat.zero_le _, Nat.zero_le _⟩ dX2_addContact_1 (fun H locs G => ?_)
  refine lv_if_eq (tgt := 14) hx hb dX2_addContact_4 (by decide) (fun c_4 => ?_) (fun c_4 => ?_)
  · skip
    exact x_throw (cls := eIO) (text := "no such node") (ik := 44) (is := 46) (ic := 48) B hex F G hst (rfl) (by decide +kernel) (by decide +kernel) (by decide +kernel) (by decide +kernel) (by decide +kernel) (by decide +kernel) (by decide +kernel) hl.1 dX2_addContact_14 dX2_addContact_17 dX2_addContact_18 dX2_addContact_20 dX2_addContact_23 (by decide)
  · skip
    refine lv_iload_n hx hb dX2_addContact_7 rfl (lv_at hl 2 rfl) ?_
    refine x_callSi (rest := []) B G (c_X2_isNode l Cx.2.2 V y) (va_cwS 1 B.1.2.2.2.2 gX2_addContact_X2_isNode rfl rfl rfl (by decide +kernel) ⟨Nat.le_of_ble_eq_true rfl, Nat.le_of_ble_eq_true rfl⟩) rfl hl.1 rfl (Nat.le_of_ble_eq_true rfl) ⟨Nat.zero_le _, Nat.zero_le _⟩ dX2_addContact_8 (fun H locs G => ?_)
    refine lv_if_ne (tgt := 24) hx hb dX2_addContact_11 (by decide) (fun c_11 => ?_) (fun c_11 => ?_)
    · skip
      exact absurd ⟨b2i_1 c_4, b2i_1 c_11⟩ h
    · skip
      exact x_throw (cls := eIO) (text := "no such node") (ik := 44) (is := 46) (ic := 48) B hex F G hst (rfl) (by decide +kernel) (by decide +kernel) (by decide +kernel) (by decide +kernel) (by decide +kernel) (by decide +kernel) (by decide +kernel) hl.1 dX2_addContact_14 dX2_addContact_17 dX2_addContact_18 dX2_addContact_20 dX2_addContact_23 (by decide)
set_option maxHeartbeats 4000000 in
set_option maxRecDepth 100000 in
theorem c_X2_addContact_bad2 (l : Launch) (hst : l.stackTraces = false) {D : va_G} {sh : xS} {ad : Nat → Nat} {cI cZ cO : ClassId} {tys : List (ClassId × FieldType)} {nb : Nat} {od : Nat → Nat} (DL : xDl sh ad cI cZ cO tys nb od) {sa : Nat → Nat} (V : xV) (h4 : V 4 2 = nI nb) (h5 : V 5 2 = nI nb) (x y f g : Int32) (hx7 : 0 ≤ x ∧ x ≤ 7) (hy7 : 0 ≤ y ∧ y ≤ 7) (h : ¬ (x ≠ y ∧ (0 ≤ f ∧ f ≤ 100000) ∧ (f ≤ g ∧ g ≤ 100000))) : xMx l yX2_addContact wsX2_addContact (rmX 4) D sh ad tys sa V [.ref (ad 0), .int x, .int y, .int f, .int g] eIA V := by
  refine xOfx (cc := cX2_addContact) (nL := 5) (ret := some .int) (own := RX2) (by decide) rfl rfl (Nat.le_of_ble_eq_true rfl) DL.2.2.2.2.2.2.1.2.2 ?_
  intro p e s m args below meth c A ls B hex F G hl
  have hx := B.1.1
  have hb := B.1.2.1
  have hin1 : ∀ w ∈ wsX10, w ∈ wsX2_addContact := by decide +kernel
  have hin2 : ∀ w ∈ wsX20, w ∈ wsX2_addContact := by decide +kernel
  have hl : lv_has ls 5 [(0, .ref (ad 0)), (1, .int x), (2, .int y), (3, .int f), (4, .int g)] := hl
  obtain ⟨Dl, Pl, L4, L5, Bs, od_lt, Cx, tO, hn40⟩ := id DL
  obtain ⟨a4, s4, -⟩ := id L4
  obtain ⟨a5, s5, -⟩ := id L5
  refine lv_iload_n hx hb dX2_addContact_0 rfl (lv_at hl 1 rfl) ?_
  refine x_callSi (rest := []) B G (c_X2_isNode l Cx.2.2 V x) (va_cwS 1 B.1.2.2.2.2 gX2_addContact_X2_isNode rfl rfl rfl (by decide +kernel) ⟨Nat.le_of_ble_eq_true rfl, Nat.le_of_ble_eq_true rfl⟩) rfl hl.1 rfl (Nat.le_of_ble_eq_true rfl) ⟨Nat.zero_le _, Nat.zero_le _⟩ dX2_addContact_1 (fun H locs G => ?_)
  refine lv_if_eq (tgt := 14) hx hb dX2_addContact_4 (by decide) (fun c_4 => ?_) (fun c_4 => ?_)
  · exact False.elim (b2i_0.mp c_4 (hx7))
  · skip
    refine lv_iload_n hx hb dX2_addContact_7 rfl (lv_at hl 2 rfl) ?_
    refine x_callSi (rest := []) B G (c_X2_isNode l Cx.2.2 V y) (va_cwS 1 B.1.2.2.2.2 gX2_addContact_X2_isNode rfl rfl rfl (by decide +kernel) ⟨Nat.le_of_ble_eq_true rfl, Nat.le_of_ble_eq_true rfl⟩) rfl hl.1 rfl (Nat.le_of_ble_eq_true rfl) ⟨Nat.zero_le _, Nat.zero_le _⟩ dX2_addContact_8 (fun H locs G => ?_)
    refine lv_if_ne (tgt := 24) hx hb dX2_addContact_11 (by decide) (fun c_11 => ?_) (fun c_11 => ?_)
    · skip
      refine lv_iload_n hx hb dX2_addContact_24 rfl (lv_at hl 1 rfl) ?_
      refine lv_iload_n hx hb dX2_addContact_25 rfl (lv_at hl 2 rfl) ?_
      refine lv_icmp_eq (tgt := 50) hx hb dX2_addContact_26 (by decide) (fun c_26 => ?_) (fun c_26 => ?_)
      · skip
        exact x_throw (cls := eIA) (text := "not a contact") (ik := 55) (is := 144) (ic := 59) B hex F G hst (rfl) (by decide +kernel) (by decide +kernel) (by decide +kernel) (by decide +kernel) (by decide +kernel) (by decide +kernel) (by decide +kernel) hl.1 dX2_addContact_50 dX2_addContact_53 dX2_addContact_54 dX2_addContact_56 dX2_addContact_59 (by decide)
      · skip
        refine lv_iload_n hx hb dX2_addContact_29 rfl (lv_at hl 3 rfl) ?_
        refine lv_iconst (v := 0) hx hb dX2_addContact_30 (by decide) ?_
        refine lv_ldc (v := 100000) hx hb B.1.2.2.2.1 (B.1.2.2.2.2 (Cond.constant RX2 143 (100000)) (by decide +kernel)) dX2_addContact_31 ?_
        refine x_callSi (rest := []) B G (c_X2_isWithin l Cx.2.2 V f 0 100000) (va_cwS 3 B.1.2.2.2.2 gX2_addContact_X2_isWithin rfl rfl rfl (by decide +kernel) ⟨Nat.le_of_ble_eq_true rfl, Nat.le_of_ble_eq_true rfl⟩) rfl hl.1 rfl (Nat.le_of_ble_eq_true rfl) ⟨Nat.zero_le _, Nat.zero_le _⟩ dX2_addContact_33 (fun H locs G => ?_)
        refine lv_if_eq (tgt := 50) hx hb dX2_addContact_36 (by decide) (fun c_36 => ?_) (fun c_36 => ?_)
        · skip
          exact x_throw (cls := eIA) (text := "not a contact") (ik := 55) (is := 144) (ic := 59) B hex F G hst (rfl) (by decide +kernel) (by decide +kernel) (by decide +kernel) (by decide +kernel) (by decide +kernel) (by decide +kernel) (by decide +kernel) hl.1 dX2_addContact_50 dX2_addContact_53 dX2_addContact_54 dX2_addContact_56 dX2_addContact_59 (by decide)
        · skip
          refine lv_iload hx hb dX2_addContact_39 (lv_at hl 4 rfl) ?_
          refine lv_iload_n hx hb dX2_addContact_41 rfl (lv_at hl 3 rfl) ?_
          refine lv_ldc (v := 100000) hx hb B.1.2.2.2.1 (B.1.2.2.2.2 (Cond.constant RX2 143 (100000)) (by decide +kernel)) dX2_addContact_42 ?_
          refine x_callSi (rest := []) B G (c_X2_isWithin l Cx.2.2 V g f 100000) (va_cwS 3 B.1.2.2.2.2 gX2_addContact_X2_isWithin rfl rfl rfl (by decide +kernel) ⟨Nat.le_of_ble_eq_true rfl, Nat.le_of_ble_eq_true rfl⟩) rfl hl.1 rfl (Nat.le_of_ble_eq_true rfl) ⟨Nat.zero_le _, Nat.zero_le _⟩ dX2_addContact_44 (fun H locs G => ?_)
          refine lv_if_ne (tgt := 60) hx hb dX2_addContact_47 (by decide) (fun c_47 => ?_) (fun c_47 => ?_)
          · skip
            exact absurd ⟨c_26, b2i_1 c_36, b2i_1 c_47⟩ h
          · skip
            exact x_throw (cls := eIA) (text := "not a contact") (ik := 55) (is := 144) (ic := 59) B hex F G hst (rfl) (by decide +kernel) (by decide +kernel) (by decide +kernel) (by decide +kernel) (by decide +kernel) (by decide +kernel) (by decide +kernel) hl.1 dX2_addContact_50 dX2_addContact_53 dX2_addContact_54 dX2_addContact_56 dX2_addContact_59 (by decide)
    · exact False.elim (b2i_0.mp c_11 (hy7))
set_option maxHeartbeats 4000000 in
set_option maxRecDepth 100000 in
theorem c_X2_addContact_bad3 (l : Launch) (hst : l.stackTraces = false) {D : va_G} {sh : xS} {ad : Nat → Nat} {cI cZ cO : ClassId} {tys : List (ClassId × FieldType)} {nb : Nat} {od : Nat → Nat} (DL : xDl sh ad cI cZ cO tys nb od) {sa : Nat → Nat} (V : xV) (h4 : V 4 2 = nI nb) (h5 : V 5 2 = nI nb) (x y f g : Int32) (hx7 : 0 ≤ x ∧ x ≤ 7) (hy7 : 0 ≤ y ∧ y ≤ 7) (h : x ≠ y ∧ (0 ≤ f ∧ f ≤ 100000) ∧ (f ≤ g ∧ g ≤ 100000)) (h30 : ¬ V 6 6 < 30) : xMx l yX2_addContact wsX2_addContact (rmX 4) D sh ad tys sa V [.ref (ad 0), .int x, .int y, .int f, .int g] eIS V := by
  refine xOfx (cc := cX2_addContact) (nL := 5) (ret := some .int) (own := RX2) (by decide) rfl rfl (Nat.le_of_ble_eq_true rfl) DL.2.2.2.2.2.2.1.2.2 ?_
  intro p e s m args below meth c A ls B hex F G hl
  have hx := B.1.1
  have hb := B.1.2.1
  have hin1 : ∀ w ∈ wsX10, w ∈ wsX2_addContact := by decide +kernel
  have hin2 : ∀ w ∈ wsX20, w ∈ wsX2_addContact := by decide +kernel
  have hl : lv_has ls 5 [(0, .ref (ad 0)), (1, .int x), (2, .int y), (3, .int f), (4, .int g)] := hl
  obtain ⟨Dl, Pl, L4, L5, Bs, od_lt, Cx, tO, hn40⟩ := id DL
  obtain ⟨a4, s4, -⟩ := id L4
  obtain ⟨a5, s5, -⟩ := id L5
  refine lv_iload_n hx hb dX2_addContact_0 rfl (lv_at hl 1 rfl) ?_
  refine x_callSi (rest := []) B G (c_X2_isNode l Cx.2.2 V x) (va_cwS 1 B.1.2.2.2.2 gX2_addContact_X2_isNode rfl rfl rfl (by decide +kernel) ⟨Nat.le_of_ble_eq_true rfl, Nat.le_of_ble_eq_true rfl⟩) rfl hl.1 rfl (Nat.le_of_ble_eq_true rfl) ⟨Nat.zero_le _, Nat.zero_le _⟩ dX2_addContact_1 (fun H locs G => ?_)
  refine lv_if_eq (tgt := 14) hx hb dX2_addContact_4 (by decide) (fun c_4 => ?_) (fun c_4 => ?_)
  · exact False.elim (b2i_0.mp c_4 (hx7))
  · skip
    refine lv_iload_n hx hb dX2_addContact_7 rfl (lv_at hl 2 rfl) ?_
    refine x_callSi (rest := []) B G (c_X2_isNode l Cx.2.2 V y) (va_cwS 1 B.1.2.2.2.2 gX2_addContact_X2_isNode rfl rfl rfl (by decide +kernel) ⟨Nat.le_of_ble_eq_true rfl, Nat.le_of_ble_eq_true rfl⟩) rfl hl.1 rfl (Nat.le_of_ble_eq_true rfl) ⟨Nat.zero_le _, Nat.zero_le _⟩ dX2_addContact_8 (fun H locs G => ?_)
    refine lv_if_ne (tgt := 24) hx hb dX2_addContact_11 (by decide) (fun c_11 => ?_) (fun c_11 => ?_)
    · skip
      refine lv_iload_n hx hb dX2_addContact_24 rfl (lv_at hl 1 rfl) ?_
      refine lv_iload_n hx hb dX2_addContact_25 rfl (lv_at hl 2 rfl) ?_
      refine lv_icmp_eq (tgt := 50) hx hb dX2_addContact_26 (by decide) (fun c_26 => ?_) (fun c_26 => ?_)
      · exact False.elim (h.1 c_26)
      · skip
        refine lv_iload_n hx hb dX2_addContact_29 rfl (lv_at hl 3 rfl) ?_
        refine lv_iconst (v := 0) hx hb dX2_addContact_30 (by decide) ?_
        refine lv_ldc (v := 100000) hx hb B.1.2.2.2.1 (B.1.2.2.2.2 (Cond.constant RX2 143 (100000)) (by decide +kernel)) dX2_addContact_31 ?_
        refine x_callSi (rest := []) B G (c_X2_isWithin l Cx.2.2 V f 0 100000) (va_cwS 3 B.1.2.2.2.2 gX2_addContact_X2_isWithin rfl rfl rfl (by decide +kernel) ⟨Nat.le_of_ble_eq_true rfl, Nat.le_of_ble_eq_true rfl⟩) rfl hl.1 rfl (Nat.le_of_ble_eq_true rfl) ⟨Nat.zero_le _, Nat.zero_le _⟩ dX2_addContact_33 (fun H locs G => ?_)
        refine lv_if_eq (tgt := 50) hx hb dX2_addContact_36 (by decide) (fun c_36 => ?_) (fun c_36 => ?_)
        · exact False.elim (b2i_0.mp c_36 (h.2.1))
        · skip
          refine lv_iload hx hb dX2_addContact_39 (lv_at hl 4 rfl) ?_
          refine lv_iload_n hx hb dX2_addContact_41 rfl (lv_at hl 3 rfl) ?_
          refine lv_ldc (v := 100000) hx hb B.1.2.2.2.1 (B.1.2.2.2.2 (Cond.constant RX2 143 (100000)) (by decide +kernel)) dX2_addContact_42 ?_
          refine x_callSi (rest := []) B G (c_X2_isWithin l Cx.2.2 V g f 100000) (va_cwS 3 B.1.2.2.2.2 gX2_addContact_X2_isWithin rfl rfl rfl (by decide +kernel) ⟨Nat.le_of_ble_eq_true rfl, Nat.le_of_ble_eq_true rfl⟩) rfl hl.1 rfl (Nat.le_of_ble_eq_true rfl) ⟨Nat.zero_le _, Nat.zero_le _⟩ dX2_addContact_44 (fun H locs G => ?_)
          refine lv_if_ne (tgt := 60) hx hb dX2_addContact_47 (by decide) (fun c_47 => ?_) (fun c_47 => ?_)
          · skip
            refine lv_aload_n hx hb dX2_addContact_60 rfl (lv_at hl 0 rfl) ?_
            refine d_getA B G Dl hin2 6 (by decide) (by decide +kernel) dX2_addContact_61 ?_
            refine lv_iload_n hx hb dX2_addContact_64 rfl (lv_at hl 1 rfl) ?_
            refine lv_iload_n hx hb dX2_addContact_65 rfl (lv_at hl 2 rfl) ?_
            refine lv_iload_n hx hb dX2_addContact_66 rfl (lv_at hl 3 rfl) ?_
            refine lv_iload hx hb dX2_addContact_67 (lv_at hl 4 rfl) ?_
            refine x_callVi (rest := []) B G (c_X1_add_bad l Cx V Pl x y f g h30) (cwV 4 B.1.2.2.2.2 gX2_addContact_X1_add rfl rfl rfl (by decide +kernel) ⟨Nat.le_of_ble_eq_true rfl, Nat.le_of_ble_eq_true rfl⟩) (p_recv B G Pl) rfl hl.1 rfl (Nat.le_of_ble_eq_true rfl) ⟨Nat.zero_le _, Nat.zero_le _⟩ dX2_addContact_69 (fun H locs G => ?_)
            refine lv_if_ne (tgt := 85) hx hb dX2_addContact_72 (by decide) (fun c_72 => ?_) (fun c_72 => ?_)
            · exact False.elim (c_72 (by decide))
            · skip
              exact x_throw (cls := eIS) (text := "no more contacts") (ik := 64) (is := 149) (ic := 68) B hex F G hst (rfl) (by decide +kernel) (by decide +kernel) (by decide +kernel) (by decide +kernel) (by decide +kernel) (by decide +kernel) (by decide +kernel) hl.1 dX2_addContact_75 dX2_addContact_78 dX2_addContact_79 dX2_addContact_81 dX2_addContact_84 (by decide)
          · exact False.elim (b2i_0.mp c_47 (h.2.2))
    · exact False.elim (b2i_0.mp c_11 (hy7))
set_option maxHeartbeats 4000000 in
set_option maxRecDepth 100000 in
theorem c_X2_meet_bad1 (l : Launch) (hst : l.stackTraces = false) {D : va_G} {sh : xS} {ad : Nat → Nat} {cI cZ cO : ClassId} {tys : List (ClassId × FieldType)} {nb : Nat} {od : Nat → Nat} (DL : xDl sh ad cI cZ cO tys nb od) {sa : Nat → Nat} (V : xV) (h4 : V 4 2 = nI nb) (h5 : V 5 2 = nI nb) (x y z : Int32) (h : ¬ ((0 ≤ x ∧ x ≤ 7) ∧ (0 ≤ y ∧ y ≤ 7))) : xMx l yX2_meet wsX2_meet (rmX 7) D sh ad tys sa V [.ref (ad 0), .int x, .int y, .int z] eIO V := by
  refine xOfx (cc := cX2_meet) (nL := 6) (ret := some .int) (own := RX2) (by decide) rfl rfl (Nat.le_of_ble_eq_true rfl) DL.2.2.2.2.2.2.1.2.2 ?_
  intro p e s m args below meth c A ls B hex F G hl
  have hx := B.1.1
  have hb := B.1.2.1
  have hin0 : ∀ w ∈ wsX00, w ∈ wsX2_meet := by decide +kernel
  have hin1 : ∀ w ∈ wsX10, w ∈ wsX2_meet := by decide +kernel
  have hin2 : ∀ w ∈ wsX20, w ∈ wsX2_meet := by decide +kernel
  have hinL : ∀ w ∈ wsJx4a65c0, w ∈ wsX2_meet := by decide +kernel
  have hl : lv_has ls 6 [(0, .ref (ad 0)), (1, .int x), (2, .int y), (3, .int z)] := hl
  obtain ⟨Dl, Pl, L4, L5, Bs, od_lt, Cx, tO, hn40⟩ := id DL
  obtain ⟨a4, s4, -⟩ := id L4
  obtain ⟨a5, s5, -⟩ := id L5
  refine lv_iload_n hx hb dX2_meet_0 rfl (lv_at hl 1 rfl) ?_
  refine x_callSi (rest := []) B G (c_X2_isNode l Cx.2.2 V x) (va_cwS 1 B.1.2.2.2.2 gX2_meet_X2_isNode rfl rfl rfl (by decide +kernel) ⟨Nat.le_of_ble_eq_true rfl, Nat.le_of_ble_eq_true rfl⟩) rfl hl.1 rfl (Nat.le_of_ble_eq_true rfl) ⟨Nat.zero_le _, Nat.zero_le _⟩ dX2_meet_1 (fun H locs G => ?_)
  refine lv_if_eq (tgt := 14) hx hb dX2_meet_4 (by decide) (fun c_4 => ?_) (fun c_4 => ?_)
  · skip
    exact x_throw (cls := eIO) (text := "no such node") (ik := 44) (is := 46) (ic := 48) B hex F G hst (rfl) (by decide +kernel) (by decide +kernel) (by decide +kernel) (by decide +kernel) (by decide +kernel) (by decide +kernel) (by decide +kernel) hl.1 dX2_meet_14 dX2_meet_17 dX2_meet_18 dX2_meet_20 dX2_meet_23 (by decide)
  · skip
    refine lv_iload_n hx hb dX2_meet_7 rfl (lv_at hl 2 rfl) ?_
    refine x_callSi (rest := []) B G (c_X2_isNode l Cx.2.2 V y) (va_cwS 1 B.1.2.2.2.2 gX2_meet_X2_isNode rfl rfl rfl (by decide +kernel) ⟨Nat.le_of_ble_eq_true rfl, Nat.le_of_ble_eq_true rfl⟩) rfl hl.1 rfl (Nat.le_of_ble_eq_true rfl) ⟨Nat.zero_le _, Nat.zero_le _⟩ dX2_meet_8 (fun H locs G => ?_)
    refine lv_if_ne (tgt := 24) hx hb dX2_meet_11 (by decide) (fun c_11 => ?_) (fun c_11 => ?_)
    · skip
      exact absurd ⟨b2i_1 c_4, b2i_1 c_11⟩ h
    · skip
      exact x_throw (cls := eIO) (text := "no such node") (ik := 44) (is := 46) (ic := 48) B hex F G hst (rfl) (by decide +kernel) (by decide +kernel) (by decide +kernel) (by decide +kernel) (by decide +kernel) (by decide +kernel) (by decide +kernel) hl.1 dX2_meet_14 dX2_meet_17 dX2_meet_18 dX2_meet_20 dX2_meet_23 (by decide)
set_option maxHeartbeats 4000000 in
set_option maxRecDepth 100000 in
theorem c_X2_meet_bad2 (l : Launch) (hst : l.stackTraces = false) {D : va_G} {sh : xS} {ad : Nat → Nat} {cI cZ cO : ClassId} {tys : List (ClassId × FieldType)} {nb : Nat} {od : Nat → Nat} (DL : xDl sh ad cI cZ cO tys nb od) {sa : Nat → Nat} (V : xV) (h4 : V 4 2 = nI nb) (h5 : V 5 2 = nI nb) (x y z : Int32) (hx7 : 0 ≤ x ∧ x ≤ 7) (hy7 : 0 ≤ y ∧ y ≤ 7) (h : ¬ (x ≠ y ∧ (0 ≤ z ∧ z ≤ 20))) : xMx l yX2_meet wsX2_meet (rmX 7) D sh ad tys sa V [.ref (ad 0), .int x, .int y, .int z] eIA V := by
  refine xOfx (cc := cX2_meet) (nL := 6) (ret := some .int) (own := RX2) (by decide) rfl rfl (Nat.le_of_ble_eq_true rfl) DL.2.2.2.2.2.2.1.2.2 ?_
  intro p e s m args below meth c A ls B hex F G hl
  have hx := B.1.1
  have hb := B.1.2.1
  have hin0 : ∀ w ∈ wsX00, w ∈ wsX2_meet := by decide +kernel
  have hin1 : ∀ w ∈ wsX10, w ∈ wsX2_meet := by decide +kernel
  have hin2 : ∀ w ∈ wsX20, w ∈ wsX2_meet := by decide +kernel
  have hinL : ∀ w ∈ wsJx4a65c0, w ∈ wsX2_meet := by decide +kernel
  have hl : lv_has ls 6 [(0, .ref (ad 0)), (1, .int x), (2, .int y), (3, .int z)] := hl
  obtain ⟨Dl, Pl, L4, L5, Bs, od_lt, Cx, tO, hn40⟩ := id DL
  obtain ⟨a4, s4, -⟩ := id L4
  obtain ⟨a5, s5, -⟩ := id L5
  refine lv_iload_n hx hb dX2_meet_0 rfl (lv_at hl 1 rfl) ?_
  refine x_callSi (rest := []) B G (c_X2_isNode l Cx.2.2 V x) (va_cwS 1 B.1.2.2.2.2 gX2_meet_X2_isNode rfl rfl rfl (by decide +kernel) ⟨Nat.le_of_ble_eq_true rfl, Nat.le_of_ble_eq_true rfl⟩) rfl hl.1 rfl (Nat.le_of_ble_eq_true rfl) ⟨Nat.zero_le _, Nat.zero_le _⟩ dX2_meet_1 (fun H locs G => ?_)
  refine lv_if_eq (tgt := 14) hx hb dX2_meet_4 (by decide) (fun c_4 => ?_) (fun c_4 => ?_)
  · exact False.elim (b2i_0.mp c_4 (hx7))
  · skip
    refine lv_iload_n hx hb dX2_meet_7 rfl (lv_at hl 2 rfl) ?_
    refine x_callSi (rest := []) B G (c_X2_isNode l Cx.2.2 V y) (va_cwS 1 B.1.2.2.2.2 gX2_meet_X2_isNode rfl rfl rfl (by decide +kernel) ⟨Nat.le_of_ble_eq_true rfl, Nat.le_of_ble_eq_true rfl⟩) rfl hl.1 rfl (Nat.le_of_ble_eq_true rfl) ⟨Nat.zero_le _, Nat.zero_le _⟩ dX2_meet_8 (fun H locs G => ?_)
    refine lv_if_ne (tgt := 24) hx hb dX2_meet_11 (by decide) (fun c_11 => ?_) (fun c_11 => ?_)
    · skip
      refine lv_iload_n hx hb dX2_meet_24 rfl (lv_at hl 1 rfl) ?_
      refine lv_iload_n hx hb dX2_meet_25 rfl (lv_at hl 2 rfl) ?_
      refine lv_icmp_eq (tgt := 39) hx hb dX2_meet_26 (by decide) (fun c_26 => ?_) (fun c_26 => ?_)
      · skip
        exact x_throw (cls := eIA) (text := "not a meeting") (ik := 55) (is := 101) (ic := 59) B hex F G hst (rfl) (by decide +kernel) (by decide +kernel) (by decide +kernel) (by decide +kernel) (by decide +kernel) (by decide +kernel) (by decide +kernel) hl.1 dX2_meet_39 dX2_meet_42 dX2_meet_43 dX2_meet_45 dX2_meet_48 (by decide)
      · skip
        refine lv_iload_n hx hb dX2_meet_29 rfl (lv_at hl 3 rfl) ?_
        refine lv_iconst (v := 0) hx hb dX2_meet_30 (by decide) ?_
        refine lv_bipush (v := 20) hx hb dX2_meet_31 (by decide) ?_
        refine x_callSi (rest := []) B G (c_X2_isWithin l Cx.2.2 V z 0 20) (va_cwS 3 B.1.2.2.2.2 gX2_meet_X2_isWithin rfl rfl rfl (by decide +kernel) ⟨Nat.le_of_ble_eq_true rfl, Nat.le_of_ble_eq_true rfl⟩) rfl hl.1 rfl (Nat.le_of_ble_eq_true rfl) ⟨Nat.zero_le _, Nat.zero_le _⟩ dX2_meet_33 (fun H locs G => ?_)
        refine lv_if_ne (tgt := 49) hx hb dX2_meet_36 (by decide) (fun c_36 => ?_) (fun c_36 => ?_)
        · skip
          exact absurd ⟨c_26, b2i_1 c_36⟩ h
        · skip
          exact x_throw (cls := eIA) (text := "not a meeting") (ik := 55) (is := 101) (ic := 59) B hex F G hst (rfl) (by decide +kernel) (by decide +kernel) (by decide +kernel) (by decide +kernel) (by decide +kernel) (by decide +kernel) (by decide +kernel) hl.1 dX2_meet_39 dX2_meet_42 dX2_meet_43 dX2_meet_45 dX2_meet_48 (by decide)
    · exact False.elim (b2i_0.mp c_11 (hy7))
set_option maxHeartbeats 4000000 in
set_option maxRecDepth 100000 in
theorem c_X2_pass_bad (l : Launch) (hst : l.stackTraces = false) {D : va_G} {sh : xS} {ad : Nat → Nat} {cI cZ cO : ClassId} {tys : List (ClassId × FieldType)} {nb : Nat} {od : Nat → Nat} (DL : xDl sh ad cI cZ cO tys nb od) {sa : Nat → Nat} (V : xV) (h4 : V 4 2 = nI nb) (h5 : V 5 2 = nI nb) (x : Int32) (h : ¬ (1 ≤ x ∧ x ≤ 10000)) : xMx l yX2_pass wsX2_pass (rmX 4) D sh ad tys sa V [.ref (ad 0), .int x] eIA V := by
  refine xOfx (cc := cX2_pass) (nL := 6) (ret := some .int) (own := RX2) (by decide) rfl rfl (Nat.le_of_ble_eq_true rfl) DL.2.2.2.2.2.2.1.2.2 ?_
  intro p e s m args below meth c A ls B hex F G hl
  have hx := B.1.1
  have hb := B.1.2.1
  have hin0 : ∀ w ∈ wsX00, w ∈ wsX2_pass := by decide +kernel
  have hin2 : ∀ w ∈ wsX20, w ∈ wsX2_pass := by decide +kernel
  have hinL : ∀ w ∈ wsJx4a65c0, w ∈ wsX2_pass := by decide +kernel
  have hl : lv_has ls 6 [(0, .ref (ad 0)), (1, .int x)] := hl
  obtain ⟨Dl, Pl, L4, L5, Bs, od_lt, Cx, tO, hn40⟩ := id DL
  obtain ⟨a4, s4, -⟩ := id L4
  obtain ⟨a5, s5, -⟩ := id L5
  refine lv_iload_n hx hb dX2_pass_0 rfl (lv_at hl 1 rfl) ?_
  refine lv_iconst (v := 1) hx hb dX2_pass_1 (by decide) ?_
  refine lv_sipush (v := 10000) hx hb dX2_pass_2 (by decide) ?_
  refine x_callSi (rest := []) B G (c_X2_isWithin l Cx.2.2 V x 1 10000) (va_cwS 3 B.1.2.2.2.2 gX2_pass_X2_isWithin rfl rfl rfl (by decide +kernel) ⟨Nat.le_of_ble_eq_true rfl, Nat.le_of_ble_eq_true rfl⟩) rfl hl.1 rfl (Nat.le_of_ble_eq_true rfl) ⟨Nat.zero_le _, Nat.zero_le _⟩ dX2_pass_5 (fun H locs G => ?_)
  refine lv_if_ne (tgt := 21) hx hb dX2_pass_8 (by decide) (fun c_8 => ?_) (fun c_8 => ?_)
  · exact False.elim (c_8 (b2i_f (h)))
  · skip
    exact x_throw (cls := eIA) (text := "seconds out of range") (ik := 55) (is := 120) (ic := 59) B hex F G hst (rfl) (by decide +kernel) (by decide +kernel) (by decide +kernel) (by decide +kernel) (by decide +kernel) (by decide +kernel) (by decide +kernel) hl.1 dX2_pass_11 dX2_pass_14 dX2_pass_15 dX2_pass_17 dX2_pass_20 (by decide)
set_option maxHeartbeats 4000000 in
set_option maxRecDepth 100000 in
theorem c_X2_send_bad1 (l : Launch) (hst : l.stackTraces = false) {D : va_G} {sh : xS} {ad : Nat → Nat} {cI cZ cO : ClassId} {tys : List (ClassId × FieldType)} {nb : Nat} {od : Nat → Nat} (DL : xDl sh ad cI cZ cO tys nb od) {sa : Nat → Nat} (V : xV) (h4 : V 4 2 = nI nb) (h5 : V 5 2 = nI nb) (x y p0 c0 t0 : Int32) (h : ¬ ((0 ≤ x ∧ x ≤ 7) ∧ (0 ≤ y ∧ y ≤ 7))) : xMx l yX2_send wsX2_send (rmX 7) D sh ad tys sa V [.ref (ad 0), .int x, .int y, .int p0, .int c0, .int t0] eIO V := by
  refine xOfx (cc := cX2_send) (nL := 7) (ret := some .int) (own := RX2) (by decide) rfl rfl (Nat.le_of_ble_eq_true rfl) DL.2.2.2.2.2.2.1.2.2 ?_
  intro p e s m args below meth c A ls B hex F G hl
  have hx := B.1.1
  have hb := B.1.2.1
  have hin0 : ∀ w ∈ wsX00, w ∈ wsX2_send := by decide +kernel
  have hin2 : ∀ w ∈ wsX20, w ∈ wsX2_send := by decide +kernel
  have hinL : ∀ w ∈ wsJx4a65c0, w ∈ wsX2_send := by decide +kernel
  have hl : lv_has ls 7 [(0, .ref (ad 0)), (1, .int x), (2, .int y), (3, .int p0), (4, .int c0), (5, .int t0)] := hl
  obtain ⟨Dl, Pl, L4, L5, Bs, od_lt, Cx, tO, hn40⟩ := id DL
  obtain ⟨a4, s4, -⟩ := id L4
  obtain ⟨a5, s5, -⟩ := id L5
  refine lv_iload_n hx hb dX2_send_0 rfl (lv_at hl 1 rfl) ?_
  refine x_callSi (rest := []) B G (c_X2_isNode l Cx.2.2 V x) (va_cwS 1 B.1.2.2.2.2 gX2_send_X2_isNode rfl rfl rfl (by decide +kernel) ⟨Nat.le_of_ble_eq_true rfl, Nat.le_of_ble_eq_true rfl⟩) rfl hl.1 rfl (Nat.le_of_ble_eq_true rfl) ⟨Nat.zero_le _, Nat.zero_le _⟩ dX2_send_1 (fun H locs G => ?_)
  refine lv_if_eq (tgt := 14) hx hb dX2_send_4 (by decide) (fun c_4 => ?_) (fun c_4 => ?_)
  · skip
    exact x_throw (cls := eIO) (text := "no such node") (ik := 44) (is := 46) (ic := 48) B hex F G hst (rfl) (by decide +kernel) (by decide +kernel) (by decide +kernel) (by decide +kernel) (by decide +kernel) (by decide +kernel) (by decide +kernel) hl.1 dX2_send_14 dX2_send_17 dX2_send_18 dX2_send_20 dX2_send_23 (by decide)
  · skip
    refine lv_iload_n hx hb dX2_send_7 rfl (lv_at hl 2 rfl) ?_
    refine x_callSi (rest := []) B G (c_X2_isNode l Cx.2.2 V y) (va_cwS 1 B.1.2.2.2.2 gX2_send_X2_isNode rfl rfl rfl (by decide +kernel) ⟨Nat.le_of_ble_eq_true rfl, Nat.le_of_ble_eq_true rfl⟩) rfl hl.1 rfl (Nat.le_of_ble_eq_true rfl) ⟨Nat.zero_le _, Nat.zero_le _⟩ dX2_send_8 (fun H locs G => ?_)
    refine lv_if_ne (tgt := 24) hx hb dX2_send_11 (by decide) (fun c_11 => ?_) (fun c_11 => ?_)
    · skip
      exact absurd ⟨b2i_1 c_4, b2i_1 c_11⟩ h
    · skip
      exact x_throw (cls := eIO) (text := "no such node") (ik := 44) (is := 46) (ic := 48) B hex F G hst (rfl) (by decide +kernel) (by decide +kernel) (by decide +kernel) (by decide +kernel) (by decide +kernel) (by decide +kernel) (by decide +kernel) hl.1 dX2_send_14 dX2_send_17 dX2_send_18 dX2_send_20 dX2_send_23 (by decide)
set_option maxHeartbeats 4000000 in
set_option maxRecDepth 100000 in
theorem c_X2_send_bad2 (l : Launch) (hst : l.stackTraces = false) {D : va_G} {sh : xS} {ad : Nat → Nat} {cI cZ cO : ClassId} {tys : List (ClassId × FieldType)} {nb : Nat} {od : Nat → Nat} (DL : xDl sh ad cI cZ cO tys nb od) {sa : Nat → Nat} (V : xV) (h4 : V 4 2 = nI nb) (h5 : V 5 2 = nI nb) (x y p0 c0 t0 : Int32) (hx7 : 0 ≤ x ∧ x ≤ 7) (hy7 : 0 ≤ y ∧ y ≤ 7) (h : ¬ (x ≠ y ∧ (0 ≤ p0 ∧ p0 ≤ 2) ∧ (1 ≤ c0 ∧ c0 ≤ 64) ∧ (1 ≤ t0 ∧ t0 ≤ 10000))) : xMx l yX2_send wsX2_send (rmX 7) D sh ad tys sa V [.ref (ad 0), .int x, .int y, .int p0, .int c0, .int t0] eIA V := by
  refine xOfx (cc := cX2_send) (nL := 7) (ret := some .int) (own := RX2) (by decide) rfl rfl (Nat.le_of_ble_eq_true rfl) DL.2.2.2.2.2.2.1.2.2 ?_
  intro p e s m args below meth c A ls B hex F G hl
  have hx := B.1.1
  have hb := B.1.2.1
  have hin0 : ∀ w ∈ wsX00, w ∈ wsX2_send := by decide +kernel
  have hin2 : ∀ w ∈ wsX20, w ∈ wsX2_send := by decide +kernel
  have hinL : ∀ w ∈ wsJx4a65c0, w ∈ wsX2_send := by decide +kernel
  have hl : lv_has ls 7 [(0, .ref (ad 0)), (1, .int x), (2, .int y), (3, .int p0), (4, .int c0), (5, .int t0)] := hl
  obtain ⟨Dl, Pl, L4, L5, Bs, od_lt, Cx, tO, hn40⟩ := id DL
  obtain ⟨a4, s4, -⟩ := id L4
  obtain ⟨a5, s5, -⟩ := id L5
  refine lv_iload_n hx hb dX2_send_0 rfl (lv_at hl 1 rfl) ?_
  refine x_callSi (rest := []) B G (c_X2_isNode l Cx.2.2 V x) (va_cwS 1 B.1.2.2.2.2 gX2_send_X2_isNode rfl rfl rfl (by decide +kernel) ⟨Nat.le_of_ble_eq_true rfl, Nat.le_of_ble_eq_true rfl⟩) rfl hl.1 rfl (Nat.le_of_ble_eq_true rfl) ⟨Nat.zero_le _, Nat.zero_le _⟩ dX2_send_1 (fun H locs G => ?_)
  refine lv_if_eq (tgt := 14) hx hb dX2_send_4 (by decide) (fun c_4 => ?_) (fun c_4 => ?_)
  · exact False.elim (b2i_0.mp c_4 (hx7))
  · skip
    refine lv_iload_n hx hb dX2_send_7 rfl (lv_at hl 2 rfl) ?_
    refine x_callSi (rest := []) B G (c_X2_isNode l Cx.2.2 V y) (va_cwS 1 B.1.2.2.2.2 gX2_send_X2_isNode rfl rfl rfl (by decide +kernel) ⟨Nat.le_of_ble_eq_true rfl, Nat.le_of_ble_eq_true rfl⟩) rfl hl.1 rfl (Nat.le_of_ble_eq_true rfl) ⟨Nat.zero_le _, Nat.zero_le _⟩ dX2_send_8 (fun H locs G => ?_)
    refine lv_if_ne (tgt := 24) hx hb dX2_send_11 (by decide) (fun c_11 => ?_) (fun c_11 => ?_)
    · skip
      refine lv_iload_n hx hb dX2_send_24 rfl (lv_at hl 1 rfl) ?_
      refine lv_iload_n hx hb dX2_send_25 rfl (lv_at hl 2 rfl) ?_
      refine lv_icmp_eq (tgt := 61) hx hb dX2_send_26 (by decide) (fun c_26 => ?_) (fun c_26 => ?_)
      · skip
        exact x_throw (cls := eIA) (text := "not a bundle that can be sent") (ik := 55) (is := 57) (ic := 59) B hex F G hst (rfl) (by decide +kernel) (by decide +kernel) (by decide +kernel) (by decide +kernel) (by decide +kernel) (by decide +kernel) (by decide +kernel) hl.1 dX2_send_61 dX2_send_64 dX2_send_65 dX2_send_67 dX2_send_70 (by decide)
      · skip
        refine lv_iload_n hx hb dX2_send_29 rfl (lv_at hl 3 rfl) ?_
        refine lv_iconst (v := 0) hx hb dX2_send_30 (by decide) ?_
        refine lv_iconst (v := 2) hx hb dX2_send_31 (by decide) ?_
        refine x_callSi (rest := []) B G (c_X2_isWithin l Cx.2.2 V p0 0 2) (va_cwS 3 B.1.2.2.2.2 gX2_send_X2_isWithin rfl rfl rfl (by decide +kernel) ⟨Nat.le_of_ble_eq_true rfl, Nat.le_of_ble_eq_true rfl⟩) rfl hl.1 rfl (Nat.le_of_ble_eq_true rfl) ⟨Nat.zero_le _, Nat.zero_le _⟩ dX2_send_32 (fun H locs G => ?_)
        refine lv_if_eq (tgt := 61) hx hb dX2_send_35 (by decide) (fun c_35 => ?_) (fun c_35 => ?_)
        · skip
          exact x_throw (cls := eIA) (text := "not a bundle that can be sent") (ik := 55) (is := 57) (ic := 59) B hex F G hst (rfl) (by decide +kernel) (by decide +kernel) (by decide +kernel) (by decide +kernel) (by decide +kernel) (by decide +kernel) (by decide +kernel) hl.1 dX2_send_61 dX2_send_64 dX2_send_65 dX2_send_67 dX2_send_70 (by decide)
        · skip
          refine lv_iload hx hb dX2_send_38 (lv_at hl 4 rfl) ?_
          refine lv_iconst (v := 1) hx hb dX2_send_40 (by decide) ?_
          refine lv_bipush (v := 64) hx hb dX2_send_41 (by decide) ?_
          refine x_callSi (rest := []) B G (c_X2_isWithin l Cx.2.2 V c0 1 64) (va_cwS 3 B.1.2.2.2.2 gX2_send_X2_isWithin rfl rfl rfl (by decide +kernel) ⟨Nat.le_of_ble_eq_true rfl, Nat.le_of_ble_eq_true rfl⟩) rfl hl.1 rfl (Nat.le_of_ble_eq_true rfl) ⟨Nat.zero_le _, Nat.zero_le _⟩ dX2_send_43 (fun H locs G => ?_)
          refine lv_if_eq (tgt := 61) hx hb dX2_send_46 (by decide) (fun c_46 => ?_) (fun c_46 => ?_)
          · skip
            exact x_throw (cls := eIA) (text := "not a bundle that can be sent") (ik := 55) (is := 57) (ic := 59) B hex F G hst (rfl) (by decide +kernel) (by decide +kernel) (by decide +kernel) (by decide +kernel) (by decide +kernel) (by decide +kernel) (by decide +kernel) hl.1 dX2_send_61 dX2_send_64 dX2_send_65 dX2_send_67 dX2_send_70 (by decide)
          · skip
            refine lv_iload hx hb dX2_send_49 (lv_at hl 5 rfl) ?_
            refine lv_iconst (v := 1) hx hb dX2_send_51 (by decide) ?_
            refine lv_sipush (v := 10000) hx hb dX2_send_52 (by decide) ?_
            refine x_callSi (rest := []) B G (c_X2_isWithin l Cx.2.2 V t0 1 10000) (va_cwS 3 B.1.2.2.2.2 gX2_send_X2_isWithin rfl rfl rfl (by decide +kernel) ⟨Nat.le_of_ble_eq_true rfl, Nat.le_of_ble_eq_true rfl⟩) rfl hl.1 rfl (Nat.le_of_ble_eq_true rfl) ⟨Nat.zero_le _, Nat.zero_le _⟩ dX2_send_55 (fun H locs G => ?_)
            refine lv_if_ne (tgt := 71) hx hb dX2_send_58 (by decide) (fun c_58 => ?_) (fun c_58 => ?_)
            · skip
              exact absurd ⟨c_26, b2i_1 c_35, b2i_1 c_46, b2i_1 c_58⟩ h
            · skip
              exact x_throw (cls := eIA) (text := "not a bundle that can be sent") (ik := 55) (is := 57) (ic := 59) B hex F G hst (rfl) (by decide +kernel) (by decide +kernel) (by decide +kernel) (by decide +kernel) (by decide +kernel) (by decide +kernel) (by decide +kernel) hl.1 dX2_send_61 dX2_send_64 dX2_send_65 dX2_send_67 dX2_send_70 (by decide)
    · exact False.elim (b2i_0.mp c_11 (hy7))
set_option maxHeartbeats 4000000 in
set_option maxRecDepth 100000 in
theorem c_X2_send_bad3 (l : Launch) (hst : l.stackTraces = false) {D : va_G} {sh : xS} {ad : Nat → Nat} {cI cZ cO : ClassId} {tys : List (ClassId × FieldType)} {nb : Nat} {od : Nat → Nat} (DL : xDl sh ad cI cZ cO tys nb od) {sa : Nat → Nat} (V : xV) (h4 : V 4 2 = nI nb) (h5 : V 5 2 = nI nb) (x y p0 c0 t0 : Int32) (hx7 : 0 ≤ x ∧ x ≤ 7) (hy7 : 0 ≤ y ∧ y ≤ 7) (h : x ≠ y ∧ (0 ≤ p0 ∧ p0 ≤ 2) ∧ (1 ≤ c0 ∧ c0 ≤ 64) ∧ (1 ≤ t0 ∧ t0 ≤ 10000)) (h40 : nb = 40) : xMx l yX2_send wsX2_send (rmX 7) D sh ad tys sa V [.ref (ad 0), .int x, .int y, .int p0, .int c0, .int t0] eIS V := by
  refine xOfx (cc := cX2_send) (nL := 7) (ret := some .int) (own := RX2) (by decide) rfl rfl (Nat.le_of_ble_eq_true rfl) DL.2.2.2.2.2.2.1.2.2 ?_
  intro p e s m args below meth c A ls B hex F G hl
  have hx := B.1.1
  have hb := B.1.2.1
  have hin0 : ∀ w ∈ wsX00, w ∈ wsX2_send := by decide +kernel
  have hin2 : ∀ w ∈ wsX20, w ∈ wsX2_send := by decide +kernel
  have hinL : ∀ w ∈ wsJx4a65c0, w ∈ wsX2_send := by decide +kernel
  have hl : lv_has ls 7 [(0, .ref (ad 0)), (1, .int x), (2, .int y), (3, .int p0), (4, .int c0), (5, .int t0)] := hl
  obtain ⟨Dl, Pl, L4, L5, Bs, od_lt, Cx, tO, hn40⟩ := id DL
  obtain ⟨a4, s4, -⟩ := id L4
  obtain ⟨a5, s5, -⟩ := id L5
  refine lv_iload_n hx hb dX2_send_0 rfl (lv_at hl 1 rfl) ?_
  refine x_callSi (rest := []) B G (c_X2_isNode l Cx.2.2 V x) (va_cwS 1 B.1.2.2.2.2 gX2_send_X2_isNode rfl rfl rfl (by decide +kernel) ⟨Nat.le_of_ble_eq_true rfl, Nat.le_of_ble_eq_true rfl⟩) rfl hl.1 rfl (Nat.le_of_ble_eq_true rfl) ⟨Nat.zero_le _, Nat.zero_le _⟩ dX2_send_1 (fun H locs G => ?_)
  refine lv_if_eq (tgt := 14) hx hb dX2_send_4 (by decide) (fun c_4 => ?_) (fun c_4 => ?_)
  · exact False.elim (b2i_0.mp c_4 (hx7))
  · skip
    refine lv_iload_n hx hb dX2_send_7 rfl (lv_at hl 2 rfl) ?_
    refine x_callSi (rest := []) B G (c_X2_isNode l Cx.2.2 V y) (va_cwS 1 B.1.2.2.2.2 gX2_send_X2_isNode rfl rfl rfl (by decide +kernel) ⟨Nat.le_of_ble_eq_true rfl, Nat.le_of_ble_eq_true rfl⟩) rfl hl.1 rfl (Nat.le_of_ble_eq_true rfl) ⟨Nat.zero_le _, Nat.zero_le _⟩ dX2_send_8 (fun H locs G => ?_)
    refine lv_if_ne (tgt := 24) hx hb dX2_send_11 (by decide) (fun c_11 => ?_) (fun c_11 => ?_)
    · skip
      refine lv_iload_n hx hb dX2_send_24 rfl (lv_at hl 1 rfl) ?_
      refine lv_iload_n hx hb dX2_send_25 rfl (lv_at hl 2 rfl) ?_
      refine lv_icmp_eq (tgt := 61) hx hb dX2_send_26 (by decide) (fun c_26 => ?_) (fun c_26 => ?_)
      · exact False.elim (h.1 c_26)
      · skip
        refine lv_iload_n hx hb dX2_send_29 rfl (lv_at hl 3 rfl) ?_
        refine lv_iconst (v := 0) hx hb dX2_send_30 (by decide) ?_
        refine lv_iconst (v := 2) hx hb dX2_send_31 (by decide) ?_
        refine x_callSi (rest := []) B G (c_X2_isWithin l Cx.2.2 V p0 0 2) (va_cwS 3 B.1.2.2.2.2 gX2_send_X2_isWithin rfl rfl rfl (by decide +kernel) ⟨Nat.le_of_ble_eq_true rfl, Nat.le_of_ble_eq_true rfl⟩) rfl hl.1 rfl (Nat.le_of_ble_eq_true rfl) ⟨Nat.zero_le _, Nat.zero_le _⟩ dX2_send_32 (fun H locs G => ?_)
        refine lv_if_eq (tgt := 61) hx hb dX2_send_35 (by decide) (fun c_35 => ?_) (fun c_35 => ?_)
        · exact False.elim (b2i_0.mp c_35 (h.2.1))
        · skip
          refine lv_iload hx hb dX2_send_38 (lv_at hl 4 rfl) ?_
          refine lv_iconst (v := 1) hx hb dX2_send_40 (by decide) ?_
          refine lv_bipush (v := 64) hx hb dX2_send_41 (by decide) ?_
          refine x_callSi (rest := []) B G (c_X2_isWithin l Cx.2.2 V c0 1 64) (va_cwS 3 B.1.2.2.2.2 gX2_send_X2_isWithin rfl rfl rfl (by decide +kernel) ⟨Nat.le_of_ble_eq_true rfl, Nat.le_of_ble_eq_true rfl⟩) rfl hl.1 rfl (Nat.le_of_ble_eq_true rfl) ⟨Nat.zero_le _, Nat.zero_le _⟩ dX2_send_43 (fun H locs G => ?_)
          refine lv_if_eq (tgt := 61) hx hb dX2_send_46 (by decide) (fun c_46 => ?_) (fun c_46 => ?_)
          · exact False.elim (b2i_0.mp c_46 (h.2.2.1))
          · skip
            refine lv_iload hx hb dX2_send_49 (lv_at hl 5 rfl) ?_
            refine lv_iconst (v := 1) hx hb dX2_send_51 (by decide) ?_
            refine lv_sipush (v := 10000) hx hb dX2_send_52 (by decide) ?_
            refine x_callSi (rest := []) B G (c_X2_isWithin l Cx.2.2 V t0 1 10000) (va_cwS 3 B.1.2.2.2.2 gX2_send_X2_isWithin rfl rfl rfl (by decide +kernel) ⟨Nat.le_of_ble_eq_true rfl, Nat.le_of_ble_eq_true rfl⟩) rfl hl.1 rfl (Nat.le_of_ble_eq_true rfl) ⟨Nat.zero_le _, Nat.zero_le _⟩ dX2_send_55 (fun H locs G => ?_)
            refine lv_if_ne (tgt := 71) hx hb dX2_send_58 (by decide) (fun c_58 => ?_) (fun c_58 => ?_)
            · skip
              refine lv_aload_n hx hb dX2_send_71 rfl (lv_at hl 0 rfl) ?_
              refine d_getA B G Dl hin2 4 (by decide) (by decide +kernel) dX2_send_72 ?_
              refine x_callVi (rest := []) B G (c_size l Cx.2.2 V 4 s4) (cwV 0 B.1.2.2.2.2 gX2_send_Jx4a65c_size_8abf5 rfl rfl rfl (by decide +kernel) ⟨Nat.le_of_ble_eq_true rfl, Nat.le_of_ble_eq_true rfl⟩) (l_recv B G 4 s4) rfl hl.1 rfl (Nat.le_of_ble_eq_true rfl) ⟨Nat.zero_le _, Nat.zero_le _⟩ dX2_send_75 (fun H locs G => ?_)
              refine x_top (show _ = nI nb from h4) ?_
              refine lv_bipush (v := 40) hx hb dX2_send_78 (by decide) ?_
              refine lv_icmp_lt (tgt := 93) hx hb dX2_send_80 (by decide) (fun c_80 => ?_) (fun c_80 => ?_)
              · exact False.elim (absurd ((nI_ltI (a := nb) (b := 40) (by omega) (by omega)).mp c_80) (by omega))
              · skip
                have c_80 : ¬ (nb < 40) := fun h9 => c_80 ((nI_ltI (a := nb) (b := 40) (by omega) (by omega)).mpr h9)
                exact x_throw (cls := eIS) (text := "no more bundles") (ik := 64) (is := 66) (ic := 68) B hex F G hst (rfl) (by decide +kernel) (by decide +kernel) (by decide +kernel) (by decide +kernel) (by decide +kernel) (by decide +kernel) (by decide +kernel) hl.1 dX2_send_83 dX2_send_86 dX2_send_87 dX2_send_89 dX2_send_92 (by decide)
            · exact False.elim (b2i_0.mp c_58 (h.2.2.2))
    · exact False.elim (b2i_0.mp c_11 (hy7))
set_option maxHeartbeats 4000000 in
set_option maxRecDepth 100000 in
theorem c_X2_send_bad4 (l : Launch) (hst : l.stackTraces = false) {D : va_G} {sh : xS} {ad : Nat → Nat} {cI cZ cO : ClassId} {tys : List (ClassId × FieldType)} {nb : Nat} {od : Nat → Nat} (DL : xDl sh ad cI cZ cO tys nb od) {sa : Nat → Nat} (V : xV) (h4 : V 4 2 = nI nb) (h5 : V 5 2 = nI nb) (n : Nat) (y p0 c0 t0 : Int32) (hn : n < 8) (hy7 : 0 ≤ y ∧ y ≤ 7) (h : nI n ≠ y ∧ (0 ≤ p0 ∧ p0 ≤ 2) ∧ (1 ≤ c0 ∧ c0 ≤ 64) ∧ (1 ≤ t0 ∧ t0 ≤ 10000)) (h40 : nb < 40) (hr : ¬ cRoomB V od n p0 nb = true) : xMx l yX2_send wsX2_send (rmX 7) D sh ad tys sa V [.ref (ad 0), .int (nI n), .int y, .int p0, .int c0, .int t0] eIS (cRoomV V od n p0 nb) := by
  refine xOfx (cc := cX2_send) (nL := 7) (ret := some .int) (own := RX2) (by decide) rfl rfl (Nat.le_of_ble_eq_true rfl) DL.2.2.2.2.2.2.1.2.2 ?_
  intro p e s m args below meth c A ls B hex F G hl
  have hx := B.1.1
  have hb := B.1.2.1
  have hin0 : ∀ w ∈ wsX00, w ∈ wsX2_send := by decide +kernel
  have hin2 : ∀ w ∈ wsX20, w ∈ wsX2_send := by decide +kernel
  have hinL : ∀ w ∈ wsJx4a65c0, w ∈ wsX2_send := by decide +kernel
  have hl : lv_has ls 7 [(0, .ref (ad 0)), (1, .int (nI n)), (2, .int y), (3, .int p0), (4, .int c0), (5, .int t0)] := hl
  obtain ⟨Dl, Pl, L4, L5, Bs, od_lt, Cx, tO, hn40⟩ := id DL
  obtain ⟨a4, s4, -⟩ := id L4
  obtain ⟨a5, s5, -⟩ := id L5
  refine lv_iload_n hx hb dX2_send_0 rfl (lv_at hl 1 rfl) ?_
  refine x_callSi (rest := []) B G (c_X2_isNode l Cx.2.2 V (nI n)) (va_cwS 1 B.1.2.2.2.2 gX2_send_X2_isNode rfl rfl rfl (by decide +kernel) ⟨Nat.le_of_ble_eq_true rfl, Nat.le_of_ble_eq_true rfl⟩) rfl hl.1 rfl (Nat.le_of_ble_eq_true rfl) ⟨Nat.zero_le _, Nat.zero_le _⟩ dX2_send_1 (fun H locs G => ?_)
  refine lv_if_eq (tgt := 14) hx hb dX2_send_4 (by decide) (fun c_4 => ?_) (fun c_4 => ?_)
  · exact False.elim (b2i_0.mp c_4 (nodeOK hn))
  · skip
    refine lv_iload_n hx hb dX2_send_7 rfl (lv_at hl 2 rfl) ?_
    refine x_callSi (rest := []) B G (c_X2_isNode l Cx.2.2 V y) (va_cwS 1 B.1.2.2.2.2 gX2_send_X2_isNode rfl rfl rfl (by decide +kernel) ⟨Nat.le_of_ble_eq_true rfl, Nat.le_of_ble_eq_true rfl⟩) rfl hl.1 rfl (Nat.le_of_ble_eq_true rfl) ⟨Nat.zero_le _, Nat.zero_le _⟩ dX2_send_8 (fun H locs G => ?_)
    refine lv_if_ne (tgt := 24) hx hb dX2_send_11 (by decide) (fun c_11 => ?_) (fun c_11 => ?_)
    · skip
      refine lv_iload_n hx hb dX2_send_24 rfl (lv_at hl 1 rfl) ?_
      refine lv_iload_n hx hb dX2_send_25 rfl (lv_at hl 2 rfl) ?_
      refine lv_icmp_eq (tgt := 61) hx hb dX2_send_26 (by decide) (fun c_26 => ?_) (fun c_26 => ?_)
      · exact False.elim (h.1 c_26)
      · skip
        refine lv_iload_n hx hb dX2_send_29 rfl (lv_at hl 3 rfl) ?_
        refine lv_iconst (v := 0) hx hb dX2_send_30 (by decide) ?_
        refine lv_iconst (v := 2) hx hb dX2_send_31 (by decide) ?_
        refine x_callSi (rest := []) B G (c_X2_isWithin l Cx.2.2 V p0 0 2) (va_cwS 3 B.1.2.2.2.2 gX2_send_X2_isWithin rfl rfl rfl (by decide +kernel) ⟨Nat.le_of_ble_eq_true rfl, Nat.le_of_ble_eq_true rfl⟩) rfl hl.1 rfl (Nat.le_of_ble_eq_true rfl) ⟨Nat.zero_le _, Nat.zero_le _⟩ dX2_send_32 (fun H locs G => ?_)
        refine lv_if_eq (tgt := 61) hx hb dX2_send_35 (by decide) (fun c_35 => ?_) (fun c_35 => ?_)
        · exact False.elim (b2i_0.mp c_35 (h.2.1))
        · skip
          refine lv_iload hx hb dX2_send_38 (lv_at hl 4 rfl) ?_
          refine lv_iconst (v := 1) hx hb dX2_send_40 (by decide) ?_
          refine lv_bipush (v := 64) hx hb dX2_send_41 (by decide) ?_
          refine x_callSi (rest := []) B G (c_X2_isWithin l Cx.2.2 V c0 1 64) (va_cwS 3 B.1.2.2.2.2 gX2_send_X2_isWithin rfl rfl rfl (by decide +kernel) ⟨Nat.le_of_ble_eq_true rfl, Nat.le_of_ble_eq_true rfl⟩) rfl hl.1 rfl (Nat.le_of_ble_eq_true rfl) ⟨Nat.zero_le _, Nat.zero_le _⟩ dX2_send_43 (fun H locs G => ?_)
          refine lv_if_eq (tgt := 61) hx hb dX2_send_46 (by decide) (fun c_46 => ?_) (fun c_46 => ?_)
          · exact False.elim (b2i_0.mp c_46 (h.2.2.1))
          · skip
            refine lv_iload hx hb dX2_send_49 (lv_at hl 5 rfl) ?_
            refine lv_iconst (v := 1) hx hb dX2_send_51 (by decide) ?_
            refine lv_sipush (v := 10000) hx hb dX2_send_52 (by decide) ?_
            refine x_callSi (rest := []) B G (c_X2_isWithin l Cx.2.2 V t0 1 10000) (va_cwS 3 B.1.2.2.2.2 gX2_send_X2_isWithin rfl rfl rfl (by decide +kernel) ⟨Nat.le_of_ble_eq_true rfl, Nat.le_of_ble_eq_true rfl⟩) rfl hl.1 rfl (Nat.le_of_ble_eq_true rfl) ⟨Nat.zero_le _, Nat.zero_le _⟩ dX2_send_55 (fun H locs G => ?_)
            refine lv_if_ne (tgt := 71) hx hb dX2_send_58 (by decide) (fun c_58 => ?_) (fun c_58 => ?_)
            · skip
              refine lv_aload_n hx hb dX2_send_71 rfl (lv_at hl 0 rfl) ?_
              refine d_getA B G Dl hin2 4 (by decide) (by decide +kernel) dX2_send_72 ?_
              refine x_callVi (rest := []) B G (c_size l Cx.2.2 V 4 s4) (cwV 0 B.1.2.2.2.2 gX2_send_Jx4a65c_size_8abf5 rfl rfl rfl (by decide +kernel) ⟨Nat.le_of_ble_eq_true rfl, Nat.le_of_ble_eq_true rfl⟩) (l_recv B G 4 s4) rfl hl.1 rfl (Nat.le_of_ble_eq_true rfl) ⟨Nat.zero_le _, Nat.zero_le _⟩ dX2_send_75 (fun H locs G => ?_)
              refine x_top (show _ = nI nb from h4) ?_
              refine lv_bipush (v := 40) hx hb dX2_send_78 (by decide) ?_
              refine lv_icmp_lt (tgt := 93) hx hb dX2_send_80 (by decide) (fun c_80 => ?_) (fun c_80 => ?_)
              · skip
                have c_80 : nb < 40 := (nI_ltI (a := nb) (b := 40) (by omega) (by omega)).mp c_80
                refine lv_aload_n hx hb dX2_send_93 rfl (lv_at hl 0 rfl) ?_
                refine lv_iload_n hx hb dX2_send_94 rfl (lv_at hl 1 rfl) ?_
                refine lv_iload_n hx hb dX2_send_95 rfl (lv_at hl 3 rfl) ?_
                refine x_callVi (rest := []) B G (c_X2_makeRoom l DL V h4 h5 n p0 hn) (cwV 2 B.1.2.2.2.2 gX2_send_X2_makeRoom rfl rfl rfl (by decide +kernel) ⟨Nat.le_of_ble_eq_true rfl, Nat.le_of_ble_eq_true rfl⟩) (d_recv B G Dl) rfl hl.1 rfl (Nat.le_of_ble_eq_true rfl) ⟨Nat.zero_le _, Nat.zero_le _⟩ dX2_send_96 (fun H locs G => ?_)
                refine lv_if_ne (tgt := 112) hx hb dX2_send_99 (by decide) (fun c_99 => ?_) (fun c_99 => ?_)
                · exact False.elim (c_99 (b2i_f (hr)))
                · skip
                  exact x_throw (cls := eIS) (text := "refused") (ik := 64) (is := 73) (ic := 68) B hex F G hst (rfl) (by decide +kernel) (by decide +kernel) (by decide +kernel) (by decide +kernel) (by decide +kernel) (by decide +kernel) (by decide +kernel) hl.1 dX2_send_102 dX2_send_105 dX2_send_106 dX2_send_108 dX2_send_111 (by decide)
              · exact False.elim (c_80 ((nI_ltI (a := nb) (b := 40) (by omega) (by omega)).mpr h40))
            · exact False.elim (b2i_0.mp c_58 (h.2.2.2))
    · exact False.elim (b2i_0.mp c_11 (hy7))
