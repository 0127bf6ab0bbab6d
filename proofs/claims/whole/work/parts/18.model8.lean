set_option maxHeartbeats 4000000 in
set_option maxRecDepth 100000 in
theorem c_X3_send_bad1 (l : Launch) {D : va_G} {sh : xS} {ad : Nat → Nat} {cI : ClassId} {tys : List (ClassId × FieldType)} (M : xMm sh ad cI tys) (V : xV) (x y p0 c0 t0 : Int32) (h : ¬ ((0 ≤ x ∧ x ≤ 7) ∧ (0 ≤ y ∧ y ≤ 7))) : xMi l yX3_send wsX3_send (rmK 3) D sh ad tys V [.ref (ad 17), .int x, .int y, .int p0, .int c0, .int t0] (-1) (xu V 17 20 1) := by
  refine xOfi (cc := cX3_send) (nL := 7) (ret := some .int) (own := RX3) (by decide) rfl rfl (Nat.le_of_ble_eq_true rfl) M.2.2 ?_
  intro p e s m args below meth c A ls B G hl
  have hx := B.1.1
  have hb := B.1.2.1
  have hin : ∀ w ∈ wsX30, w ∈ wsX3_send := by decide +kernel
  have hl : lv_has ls 7 [(0, .ref (ad 17)), (1, .int x), (2, .int y), (3, .int p0), (4, .int c0), (5, .int t0)] := hl
  refine lv_iload_n hx hb dX3_send_0 rfl (lv_at hl 1 rfl) ?_
  refine lv_iload_n hx hb dX3_send_1 rfl (lv_at hl 2 rfl) ?_
  refine lv_icmp_eq (tgt := 44) hx hb dX3_send_2 (by decide) (fun c_2 => ?_) (fun c_2 => ?_)
  · skip
    refine lv_iconst (v := 0) hx hb dX3_send_44 (by decide) ?_
    refine lv_istore (lv' := [(6, .int 0), (0, .ref (ad 17)), (1, .int x), (2, .int y), (3, .int p0), (4, .int c0), (5, .int t0)]) hx hb dX3_send_45 hl (by decide) rfl (fun ls hl => ?_)
    refine lv_aload_n hx hb dX3_send_47 rfl (lv_at hl 1 rfl) ?_
    refine lv_aload_n hx hb dX3_send_48 rfl (lv_at hl 1 rfl) ?_
    refine lv_iload_n hx hb dX3_send_49 rfl (lv_at hl 2 rfl) ?_
    refine x_callVi (rest := [.ref (ad 17)]) B G (c_X3_isNode l M V x) (cwV 1 B.1.2.2.2.2 gX3_send_X3_isNode rfl rfl rfl (by decide +kernel) ⟨Nat.le_of_ble_eq_true rfl, Nat.le_of_ble_eq_true rfl⟩) (m_recv B G M) rfl hl.1 rfl (Nat.le_of_ble_eq_true rfl) ⟨Nat.zero_le _, Nat.zero_le _⟩ dX3_send_50 (fun H locs G => ?_)
    refine lv_if_eq (tgt := 64) hx hb dX3_send_53 (by decide) (fun c_53 => ?_) (fun c_53 => ?_)
    · skip
      refine lv_iconst (v := 1) hx hb dX3_send_64 (by decide) ?_
      refine lv_goto (tgt := 91) hx hb dX3_send_65 (by decide) ?_
      refine x_callVi (rest := []) B G (c_X3_holds l M V 1) (cwV 1 B.1.2.2.2.2 gX3_send_X3_holds rfl rfl rfl (by decide +kernel) ⟨Nat.le_of_ble_eq_true rfl, Nat.le_of_ble_eq_true rfl⟩) (m_recv B G M) rfl hl.1 rfl (Nat.le_of_ble_eq_true rfl) ⟨Nat.zero_le _, Nat.zero_le _⟩ dX3_send_91 (fun H locs G => ?_)
      refine lv_if_eq (tgt := 99) hx hb dX3_send_94 (by decide) (fun c_94 => ?_) (fun c_94 => ?_)
      · exact False.elim (absurd c_94 (by decide))
      · skip
        refine lv_iconst (v := (-1)) hx hb dX3_send_97 (by decide) ?_
        exact x_iret B G (rfl) (rfl) dX3_send_98
    · skip
      refine lv_aload_n hx hb dX3_send_56 rfl (lv_at hl 1 rfl) ?_
      refine lv_iload_n hx hb dX3_send_57 rfl (lv_at hl 3 rfl) ?_
      refine x_callVi (rest := [.ref (ad 17)]) B G (c_X3_isNode l M V y) (cwV 1 B.1.2.2.2.2 gX3_send_X3_isNode rfl rfl rfl (by decide +kernel) ⟨Nat.le_of_ble_eq_true rfl, Nat.le_of_ble_eq_true rfl⟩) (m_recv B G M) rfl hl.1 rfl (Nat.le_of_ble_eq_true rfl) ⟨Nat.zero_le _, Nat.zero_le _⟩ dX3_send_58 (fun H locs G => ?_)
      refine lv_if_ne (tgt := 68) hx hb dX3_send_61 (by decide) (fun c_61 => ?_) (fun c_61 => ?_)
      · skip
        exact absurd ⟨b2i_1 c_53, b2i_1 c_61⟩ h
      · skip
        refine lv_iconst (v := 1) hx hb dX3_send_64 (by decide) ?_
        refine lv_goto (tgt := 91) hx hb dX3_send_65 (by decide) ?_
        refine x_callVi (rest := []) B G (c_X3_holds l M V 1) (cwV 1 B.1.2.2.2.2 gX3_send_X3_holds rfl rfl rfl (by decide +kernel) ⟨Nat.le_of_ble_eq_true rfl, Nat.le_of_ble_eq_true rfl⟩) (m_recv B G M) rfl hl.1 rfl (Nat.le_of_ble_eq_true rfl) ⟨Nat.zero_le _, Nat.zero_le _⟩ dX3_send_91 (fun H locs G => ?_)
        refine lv_if_eq (tgt := 99) hx hb dX3_send_94 (by decide) (fun c_94 => ?_) (fun c_94 => ?_)
        · exact False.elim (absurd c_94 (by decide))
        · skip
          refine lv_iconst (v := (-1)) hx hb dX3_send_97 (by decide) ?_
          exact x_iret B G (rfl) (rfl) dX3_send_98
  · skip
    refine lv_aload_n hx hb dX3_send_5 rfl (lv_at hl 0 rfl) ?_
    refine lv_iload_n hx hb dX3_send_6 rfl (lv_at hl 3 rfl) ?_
    refine lv_iconst (v := 0) hx hb dX3_send_7 (by decide) ?_
    refine lv_iconst (v := 2) hx hb dX3_send_8 (by decide) ?_
    refine x_callVi (rest := []) B G (c_X3_between l M V p0 0 2) (cwV 3 B.1.2.2.2.2 gX3_send_X3_between rfl rfl rfl (by decide +kernel) ⟨Nat.le_of_ble_eq_true rfl, Nat.le_of_ble_eq_true rfl⟩) (m_recv B G M) rfl hl.1 rfl (Nat.le_of_ble_eq_true rfl) ⟨Nat.zero_le _, Nat.zero_le _⟩ dX3_send_9 (fun H locs G => ?_)
    refine lv_if_eq (tgt := 44) hx hb dX3_send_12 (by decide) (fun c_12 => ?_) (fun c_12 => ?_)
    · skip
      refine lv_iconst (v := 0) hx hb dX3_send_44 (by decide) ?_
      refine lv_istore (lv' := [(6, .int 0), (0, .ref (ad 17)), (1, .int x), (2, .int y), (3, .int p0), (4, .int c0), (5, .int t0)]) hx hb dX3_send_45 hl (by decide) rfl (fun ls hl => ?_)
      refine lv_aload_n hx hb dX3_send_47 rfl (lv_at hl 1 rfl) ?_
      refine lv_aload_n hx hb dX3_send_48 rfl (lv_at hl 1 rfl) ?_
      refine lv_iload_n hx hb dX3_send_49 rfl (lv_at hl 2 rfl) ?_
      refine x_callVi (rest := [.ref (ad 17)]) B G (c_X3_isNode l M V x) (cwV 1 B.1.2.2.2.2 gX3_send_X3_isNode rfl rfl rfl (by decide +kernel) ⟨Nat.le_of_ble_eq_true rfl, Nat.le_of_ble_eq_true rfl⟩) (m_recv B G M) rfl hl.1 rfl (Nat.le_of_ble_eq_true rfl) ⟨Nat.zero_le _, Nat.zero_le _⟩ dX3_send_50 (fun H locs G => ?_)
      refine lv_if_eq (tgt := 64) hx hb dX3_send_53 (by decide) (fun c_53 => ?_) (fun c_53 => ?_)
      · skip
        refine lv_iconst (v := 1) hx hb dX3_send_64 (by decide) ?_
        refine lv_goto (tgt := 91) hx hb dX3_send_65 (by decide) ?_
        refine x_callVi (rest := []) B G (c_X3_holds l M V 1) (cwV 1 B.1.2.2.2.2 gX3_send_X3_holds rfl rfl rfl (by decide +kernel) ⟨Nat.le_of_ble_eq_true rfl, Nat.le_of_ble_eq_true rfl⟩) (m_recv B G M) rfl hl.1 rfl (Nat.le_of_ble_eq_true rfl) ⟨Nat.zero_le _, Nat.zero_le _⟩ dX3_send_91 (fun H locs G => ?_)
        refine lv_if_eq (tgt := 99) hx hb dX3_send_94 (by decide) (fun c_94 => ?_) (fun c_94 => ?_)
        · exact False.elim (absurd c_94 (by decide))
        · skip
          refine lv_iconst (v := (-1)) hx hb dX3_send_97 (by decide) ?_
          exact x_iret B G (rfl) (rfl) dX3_send_98
      · skip
        refine lv_aload_n hx hb dX3_send_56 rfl (lv_at hl 1 rfl) ?_
        refine lv_iload_n hx hb dX3_send_57 rfl (lv_at hl 3 rfl) ?_
        refine x_callVi (rest := [.ref (ad 17)]) B G (c_X3_isNode l M V y) (cwV 1 B.1.2.2.2.2 gX3_send_X3_isNode rfl rfl rfl (by decide +kernel) ⟨Nat.le_of_ble_eq_true rfl, Nat.le_of_ble_eq_true rfl⟩) (m_recv B G M) rfl hl.1 rfl (Nat.le_of_ble_eq_true rfl) ⟨Nat.zero_le _, Nat.zero_le _⟩ dX3_send_58 (fun H locs G => ?_)
        refine lv_if_ne (tgt := 68) hx hb dX3_send_61 (by decide) (fun c_61 => ?_) (fun c_61 => ?_)
        · skip
          exact absurd ⟨b2i_1 c_53, b2i_1 c_61⟩ h
        · skip
          refine lv_iconst (v := 1) hx hb dX3_send_64 (by decide) ?_
          refine lv_goto (tgt := 91) hx hb dX3_send_65 (by decide) ?_
          refine x_callVi (rest := []) B G (c_X3_holds l M V 1) (cwV 1 B.1.2.2.2.2 gX3_send_X3_holds rfl rfl rfl (by decide +kernel) ⟨Nat.le_of_ble_eq_true rfl, Nat.le_of_ble_eq_true rfl⟩) (m_recv B G M) rfl hl.1 rfl (Nat.le_of_ble_eq_true rfl) ⟨Nat.zero_le _, Nat.zero_le _⟩ dX3_send_91 (fun H locs G => ?_)
          refine lv_if_eq (tgt := 99) hx hb dX3_send_94 (by decide) (fun c_94 => ?_) (fun c_94 => ?_)
          · exact False.elim (absurd c_94 (by decide))
          · skip
            refine lv_iconst (v := (-1)) hx hb dX3_send_97 (by decide) ?_
            exact x_iret B G (rfl) (rfl) dX3_send_98
    · skip
      refine lv_aload_n hx hb dX3_send_15 rfl (lv_at hl 0 rfl) ?_
      refine lv_iload hx hb dX3_send_16 (lv_at hl 4 rfl) ?_
      refine lv_iconst (v := 1) hx hb dX3_send_18 (by decide) ?_
      refine lv_bipush (v := 64) hx hb dX3_send_19 (by decide) ?_
      refine x_callVi (rest := []) B G (c_X3_between l M V c0 1 64) (cwV 3 B.1.2.2.2.2 gX3_send_X3_between rfl rfl rfl (by decide +kernel) ⟨Nat.le_of_ble_eq_true rfl, Nat.le_of_ble_eq_true rfl⟩) (m_recv B G M) rfl hl.1 rfl (Nat.le_of_ble_eq_true rfl) ⟨Nat.zero_le _, Nat.zero_le _⟩ dX3_send_21 (fun H locs G => ?_)
      refine lv_if_eq (tgt := 44) hx hb dX3_send_24 (by decide) (fun c_24 => ?_) (fun c_24 => ?_)
      · skip
        refine lv_iconst (v := 0) hx hb dX3_send_44 (by decide) ?_
        refine lv_istore (lv' := [(6, .int 0), (0, .ref (ad 17)), (1, .int x), (2, .int y), (3, .int p0), (4, .int c0), (5, .int t0)]) hx hb dX3_send_45 hl (by decide) rfl (fun ls hl => ?_)
        refine lv_aload_n hx hb dX3_send_47 rfl (lv_at hl 1 rfl) ?_
        refine lv_aload_n hx hb dX3_send_48 rfl (lv_at hl 1 rfl) ?_
        refine lv_iload_n hx hb dX3_send_49 rfl (lv_at hl 2 rfl) ?_
        refine x_callVi (rest := [.ref (ad 17)]) B G (c_X3_isNode l M V x) (cwV 1 B.1.2.2.2.2 gX3_send_X3_isNode rfl rfl rfl (by decide +kernel) ⟨Nat.le_of_ble_eq_true rfl, Nat.le_of_ble_eq_true rfl⟩) (m_recv B G M) rfl hl.1 rfl (Nat.le_of_ble_eq_true rfl) ⟨Nat.zero_le _, Nat.zero_le _⟩ dX3_send_50 (fun H locs G => ?_)
        refine lv_if_eq (tgt := 64) hx hb dX3_send_53 (by decide) (fun c_53 => ?_) (fun c_53 => ?_)
        · skip
          refine lv_iconst (v := 1) hx hb dX3_send_64 (by decide) ?_
          refine lv_goto (tgt := 91) hx hb dX3_send_65 (by decide) ?_
          refine x_callVi (rest := []) B G (c_X3_holds l M V 1) (cwV 1 B.1.2.2.2.2 gX3_send_X3_holds rfl rfl rfl (by decide +kernel) ⟨Nat.le_of_ble_eq_true rfl, Nat.le_of_ble_eq_true rfl⟩) (m_recv B G M) rfl hl.1 rfl (Nat.le_of_ble_eq_true rfl) ⟨Nat.zero_le _, Nat.zero_le _⟩ dX3_send_91 (fun H locs G => ?_)
          refine lv_if_eq (tgt := 99) hx hb dX3_send_94 (by decide) (fun c_94 => ?_) (fun c_94 => ?_)
          · exact False.elim (absurd c_94 (by decide))
          · skip
            refine lv_iconst (v := (-1)) hx hb dX3_send_97 (by decide) ?_
            exact x_iret B G (rfl) (rfl) dX3_send_98
        · skip
          refine lv_aload_n hx hb dX3_send_56 rfl (lv_at hl 1 rfl) ?_
          refine lv_iload_n hx hb dX3_send_57 rfl (lv_at hl 3 rfl) ?_
          refine x_callVi (rest := [.ref (ad 17)]) B G (c_X3_isNode l M V y) (cwV 1 B.1.2.2.2.2 gX3_send_X3_isNode rfl rfl rfl (by decide +kernel) ⟨Nat.le_of_ble_eq_true rfl, Nat.le_of_ble_eq_true rfl⟩) (m_recv B G M) rfl hl.1 rfl (Nat.le_of_ble_eq_true rfl) ⟨Nat.zero_le _, Nat.zero_le _⟩ dX3_send_58 (fun H locs G => ?_)
          refine lv_if_ne (tgt := 68) hx hb dX3_send_61 (by decide) (fun c_61 => ?_) (fun c_61 => ?_)
          · skip
            exact absurd ⟨b2i_1 c_53, b2i_1 c_61⟩ h
          · skip
            refine lv_iconst (v := 1) hx hb dX3_send_64 (by decide) ?_
            refine lv_goto (tgt := 91) hx hb dX3_send_65 (by decide) ?_
            refine x_callVi (rest := []) B G (c_X3_holds l M V 1) (cwV 1 B.1.2.2.2.2 gX3_send_X3_holds rfl rfl rfl (by decide +kernel) ⟨Nat.le_of_ble_eq_true rfl, Nat.le_of_ble_eq_true rfl⟩) (m_recv B G M) rfl hl.1 rfl (Nat.le_of_ble_eq_true rfl) ⟨Nat.zero_le _, Nat.zero_le _⟩ dX3_send_91 (fun H locs G => ?_)
            refine lv_if_eq (tgt := 99) hx hb dX3_send_94 (by decide) (fun c_94 => ?_) (fun c_94 => ?_)
            · exact False.elim (absurd c_94 (by decide))
            · skip
              refine lv_iconst (v := (-1)) hx hb dX3_send_97 (by decide) ?_
              exact x_iret B G (rfl) (rfl) dX3_send_98
      · skip
        refine lv_aload_n hx hb dX3_send_27 rfl (lv_at hl 0 rfl) ?_
        refine lv_iload hx hb dX3_send_28 (lv_at hl 5 rfl) ?_
        refine lv_iconst (v := 1) hx hb dX3_send_30 (by decide) ?_
        refine lv_sipush (v := 10000) hx hb dX3_send_31 (by decide) ?_
        refine x_callVi (rest := []) B G (c_X3_between l M V t0 1 10000) (cwV 3 B.1.2.2.2.2 gX3_send_X3_between rfl rfl rfl (by decide +kernel) ⟨Nat.le_of_ble_eq_true rfl, Nat.le_of_ble_eq_true rfl⟩) (m_recv B G M) rfl hl.1 rfl (Nat.le_of_ble_eq_true rfl) ⟨Nat.zero_le _, Nat.zero_le _⟩ dX3_send_34 (fun H locs G => ?_)
        refine lv_if_eq (tgt := 44) hx hb dX3_send_37 (by decide) (fun c_37 => ?_) (fun c_37 => ?_)
        · skip
          refine lv_iconst (v := 0) hx hb dX3_send_44 (by decide) ?_
          refine lv_istore (lv' := [(6, .int 0), (0, .ref (ad 17)), (1, .int x), (2, .int y), (3, .int p0), (4, .int c0), (5, .int t0)]) hx hb dX3_send_45 hl (by decide) rfl (fun ls hl => ?_)
          refine lv_aload_n hx hb dX3_send_47 rfl (lv_at hl 1 rfl) ?_
          refine lv_aload_n hx hb dX3_send_48 rfl (lv_at hl 1 rfl) ?_
          refine lv_iload_n hx hb dX3_send_49 rfl (lv_at hl 2 rfl) ?_
          refine x_callVi (rest := [.ref (ad 17)]) B G (c_X3_isNode l M V x) (cwV 1 B.1.2.2.2.2 gX3_send_X3_isNode rfl rfl rfl (by decide +kernel) ⟨Nat.le_of_ble_eq_true rfl, Nat.le_of_ble_eq_true rfl⟩) (m_recv B G M) rfl hl.1 rfl (Nat.le_of_ble_eq_true rfl) ⟨Nat.zero_le _, Nat.zero_le _⟩ dX3_send_50 (fun H locs G => ?_)
          refine lv_if_eq (tgt := 64) hx hb dX3_send_53 (by decide) (fun c_53 => ?_) (fun c_53 => ?_)
          · skip
            refine lv_iconst (v := 1) hx hb dX3_send_64 (by decide) ?_
            refine lv_goto (tgt := 91) hx hb dX3_send_65 (by decide) ?_
            refine x_callVi (rest := []) B G (c_X3_holds l M V 1) (cwV 1 B.1.2.2.2.2 gX3_send_X3_holds rfl rfl rfl (by decide +kernel) ⟨Nat.le_of_ble_eq_true rfl, Nat.le_of_ble_eq_true rfl⟩) (m_recv B G M) rfl hl.1 rfl (Nat.le_of_ble_eq_true rfl) ⟨Nat.zero_le _, Nat.zero_le _⟩ dX3_send_91 (fun H locs G => ?_)
            refine lv_if_eq (tgt := 99) hx hb dX3_send_94 (by decide) (fun c_94 => ?_) (fun c_94 => ?_)
            · exact False.elim (absurd c_94 (by decide))
            · skip
              refine lv_iconst (v := (-1)) hx hb dX3_send_97 (by decide) ?_
              exact x_iret B G (rfl) (rfl) dX3_send_98
          · skip
            refine lv_aload_n hx hb dX3_send_56 rfl (lv_at hl 1 rfl) ?_
            refine lv_iload_n hx hb dX3_send_57 rfl (lv_at hl 3 rfl) ?_
            refine x_callVi (rest := [.ref (ad 17)]) B G (c_X3_isNode l M V y) (cwV 1 B.1.2.2.2.2 gX3_send_X3_isNode rfl rfl rfl (by decide +kernel) ⟨Nat.le_of_ble_eq_true rfl, Nat.le_of_ble_eq_true rfl⟩) (m_recv B G M) rfl hl.1 rfl (Nat.le_of_ble_eq_true rfl) ⟨Nat.zero_le _, Nat.zero_le _⟩ dX3_send_58 (fun H locs G => ?_)
            refine lv_if_ne (tgt := 68) hx hb dX3_send_61 (by decide) (fun c_61 => ?_) (fun c_61 => ?_)
            · skip
              exact absurd ⟨b2i_1 c_53, b2i_1 c_61⟩ h
            · skip
              refine lv_iconst (v := 1) hx hb dX3_send_64 (by decide) ?_
              refine lv_goto (tgt := 91) hx hb dX3_send_65 (by decide) ?_
              refine x_callVi (rest := []) B G (c_X3_holds l M V 1) (cwV 1 B.1.2.2.2.2 gX3_send_X3_holds rfl rfl rfl (by decide +kernel) ⟨Nat.le_of_ble_eq_true rfl, Nat.le_of_ble_eq_true rfl⟩) (m_recv B G M) rfl hl.1 rfl (Nat.le_of_ble_eq_true rfl) ⟨Nat.zero_le _, Nat.zero_le _⟩ dX3_send_91 (fun H locs G => ?_)
              refine lv_if_eq (tgt := 99) hx hb dX3_send_94 (by decide) (fun c_94 => ?_) (fun c_94 => ?_)
              · exact False.elim (absurd c_94 (by decide))
              · skip
                refine lv_iconst (v := (-1)) hx hb dX3_send_97 (by decide) ?_
                exact x_iret B G (rfl) (rfl) dX3_send_98
        · skip
          refine lv_iconst (v := 1) hx hb dX3_send_40 (by decide) ?_
          refine lv_goto (tgt := 45) hx hb dX3_send_41 (by decide) ?_
          refine lv_istore (lv' := [(6, .int 1), (0, .ref (ad 17)), (1, .int x), (2, .int y), (3, .int p0), (4, .int c0), (5, .int t0)]) hx hb dX3_send_45 hl (by decide) rfl (fun ls hl => ?_)
          refine lv_aload_n hx hb dX3_send_47 rfl (lv_at hl 1 rfl) ?_
          refine lv_aload_n hx hb dX3_send_48 rfl (lv_at hl 1 rfl) ?_
          refine lv_iload_n hx hb dX3_send_49 rfl (lv_at hl 2 rfl) ?_
          refine x_callVi (rest := [.ref (ad 17)]) B G (c_X3_isNode l M V x) (cwV 1 B.1.2.2.2.2 gX3_send_X3_isNode rfl rfl rfl (by decide +kernel) ⟨Nat.le_of_ble_eq_true rfl, Nat.le_of_ble_eq_true rfl⟩) (m_recv B G M) rfl hl.1 rfl (Nat.le_of_ble_eq_true rfl) ⟨Nat.zero_le _, Nat.zero_le _⟩ dX3_send_50 (fun H locs G => ?_)
          refine lv_if_eq (tgt := 64) hx hb dX3_send_53 (by decide) (fun c_53 => ?_) (fun c_53 => ?_)
          · skip
            refine lv_iconst (v := 1) hx hb dX3_send_64 (by decide) ?_
            refine lv_goto (tgt := 91) hx hb dX3_send_65 (by decide) ?_
            refine x_callVi (rest := []) B G (c_X3_holds l M V 1) (cwV 1 B.1.2.2.2.2 gX3_send_X3_holds rfl rfl rfl (by decide +kernel) ⟨Nat.le_of_ble_eq_true rfl, Nat.le_of_ble_eq_true rfl⟩) (m_recv B G M) rfl hl.1 rfl (Nat.le_of_ble_eq_true rfl) ⟨Nat.zero_le _, Nat.zero_le _⟩ dX3_send_91 (fun H locs G => ?_)
            refine lv_if_eq (tgt := 99) hx hb dX3_send_94 (by decide) (fun c_94 => ?_) (fun c_94 => ?_)
            · exact False.elim (absurd c_94 (by decide))
            · skip
              refine lv_iconst (v := (-1)) hx hb dX3_send_97 (by decide) ?_
              exact x_iret B G (rfl) (rfl) dX3_send_98
          · skip
            refine lv_aload_n hx hb dX3_send_56 rfl (lv_at hl 1 rfl) ?_
            refine lv_iload_n hx hb dX3_send_57 rfl (lv_at hl 3 rfl) ?_
            refine x_callVi (rest := [.ref (ad 17)]) B G (c_X3_isNode l M V y) (cwV 1 B.1.2.2.2.2 gX3_send_X3_isNode rfl rfl rfl (by decide +kernel) ⟨Nat.le_of_ble_eq_true rfl, Nat.le_of_ble_eq_true rfl⟩) (m_recv B G M) rfl hl.1 rfl (Nat.le_of_ble_eq_true rfl) ⟨Nat.zero_le _, Nat.zero_le _⟩ dX3_send_58 (fun H locs G => ?_)
            refine lv_if_ne (tgt := 68) hx hb dX3_send_61 (by decide) (fun c_61 => ?_) (fun c_61 => ?_)
            · skip
              exact absurd ⟨b2i_1 c_53, b2i_1 c_61⟩ h
            · skip
              refine lv_iconst (v := 1) hx hb dX3_send_64 (by decide) ?_
              refine lv_goto (tgt := 91) hx hb dX3_send_65 (by decide) ?_
              refine x_callVi (rest := []) B G (c_X3_holds l M V 1) (cwV 1 B.1.2.2.2.2 gX3_send_X3_holds rfl rfl rfl (by decide +kernel) ⟨Nat.le_of_ble_eq_true rfl, Nat.le_of_ble_eq_true rfl⟩) (m_recv B G M) rfl hl.1 rfl (Nat.le_of_ble_eq_true rfl) ⟨Nat.zero_le _, Nat.zero_le _⟩ dX3_send_91 (fun H locs G => ?_)
              refine lv_if_eq (tgt := 99) hx hb dX3_send_94 (by decide) (fun c_94 => ?_) (fun c_94 => ?_)
              · exact False.elim (absurd c_94 (by decide))
              · skip
                refine lv_iconst (v := (-1)) hx hb dX3_send_97 (by decide) ?_
                exact x_iret B G (rfl) (rfl) dX3_send_98
set_option maxHeartbeats 4000000 in
set_option maxRecDepth 100000 in
theorem c_X3_send_bad2 (l : Launch) {D : va_G} {sh : xS} {ad : Nat → Nat} {cI : ClassId} {tys : List (ClassId × FieldType)} (M : xMm sh ad cI tys) (V : xV) (x y p0 c0 t0 : Int32) (hx7 : 0 ≤ x ∧ x ≤ 7) (hy7 : 0 ≤ y ∧ y ≤ 7) (h : ¬ (x ≠ y ∧ (0 ≤ p0 ∧ p0 ≤ 2) ∧ (1 ≤ c0 ∧ c0 ≤ 64) ∧ (1 ≤ t0 ∧ t0 ≤ 10000))) : xMi l yX3_send wsX3_send (rmK 3) D sh ad tys V [.ref (ad 17), .int x, .int y, .int p0, .int c0, .int t0] (-1) (xu V 17 20 2) := by
  refine xOfi (cc := cX3_send) (nL := 7) (ret := some .int) (own := RX3) (by decide) rfl rfl (Nat.le_of_ble_eq_true rfl) M.2.2 ?_
  intro p e s m args below meth c A ls B G hl
  have hx := B.1.1
  have hb := B.1.2.1
  have hin : ∀ w ∈ wsX30, w ∈ wsX3_send := by decide +kernel
  have hl : lv_has ls 7 [(0, .ref (ad 17)), (1, .int x), (2, .int y), (3, .int p0), (4, .int c0), (5, .int t0)] := hl
  refine lv_iload_n hx hb dX3_send_0 rfl (lv_at hl 1 rfl) ?_
  refine lv_iload_n hx hb dX3_send_1 rfl (lv_at hl 2 rfl) ?_
  refine lv_icmp_eq (tgt := 44) hx hb dX3_send_2 (by decide) (fun c_2 => ?_) (fun c_2 => ?_)
  · skip
    refine lv_iconst (v := 0) hx hb dX3_send_44 (by decide) ?_
    refine lv_istore (lv' := [(6, .int 0), (0, .ref (ad 17)), (1, .int x), (2, .int y), (3, .int p0), (4, .int c0), (5, .int t0)]) hx hb dX3_send_45 hl (by decide) rfl (fun ls hl => ?_)
    refine lv_aload_n hx hb dX3_send_47 rfl (lv_at hl 1 rfl) ?_
    refine lv_aload_n hx hb dX3_send_48 rfl (lv_at hl 1 rfl) ?_
    refine lv_iload_n hx hb dX3_send_49 rfl (lv_at hl 2 rfl) ?_
    refine x_callVi (rest := [.ref (ad 17)]) B G (c_X3_isNode l M V x) (cwV 1 B.1.2.2.2.2 gX3_send_X3_isNode rfl rfl rfl (by decide +kernel) ⟨Nat.le_of_ble_eq_true rfl, Nat.le_of_ble_eq_true rfl⟩) (m_recv B G M) rfl hl.1 rfl (Nat.le_of_ble_eq_true rfl) ⟨Nat.zero_le _, Nat.zero_le _⟩ dX3_send_50 (fun H locs G => ?_)
    refine lv_if_eq (tgt := 64) hx hb dX3_send_53 (by decide) (fun c_53 => ?_) (fun c_53 => ?_)
    · exact False.elim (b2i_0.mp c_53 (hx7))
    · skip
      refine lv_aload_n hx hb dX3_send_56 rfl (lv_at hl 1 rfl) ?_
      refine lv_iload_n hx hb dX3_send_57 rfl (lv_at hl 3 rfl) ?_
      refine x_callVi (rest := [.ref (ad 17)]) B G (c_X3_isNode l M V y) (cwV 1 B.1.2.2.2.2 gX3_send_X3_isNode rfl rfl rfl (by decide +kernel) ⟨Nat.le_of_ble_eq_true rfl, Nat.le_of_ble_eq_true rfl⟩) (m_recv B G M) rfl hl.1 rfl (Nat.le_of_ble_eq_true rfl) ⟨Nat.zero_le _, Nat.zero_le _⟩ dX3_send_58 (fun H locs G => ?_)
      refine lv_if_ne (tgt := 68) hx hb dX3_send_61 (by decide) (fun c_61 => ?_) (fun c_61 => ?_)
      · skip
        refine lv_iload hx hb dX3_send_68 (lv_at hl 0 rfl) ?_
        refine lv_if_ne (tgt := 77) hx hb dX3_send_70 (by decide) (fun c_70 => ?_) (fun c_70 => ?_)
        · exact False.elim (c_70 (by decide))
        · skip
          refine lv_iconst (v := 2) hx hb dX3_send_73 (by decide) ?_
          refine lv_goto (tgt := 91) hx hb dX3_send_74 (by decide) ?_
          refine x_callVi (rest := []) B G (c_X3_holds l M V 2) (cwV 1 B.1.2.2.2.2 gX3_send_X3_holds rfl rfl rfl (by decide +kernel) ⟨Nat.le_of_ble_eq_true rfl, Nat.le_of_ble_eq_true rfl⟩) (m_recv B G M) rfl hl.1 rfl (Nat.le_of_ble_eq_true rfl) ⟨Nat.zero_le _, Nat.zero_le _⟩ dX3_send_91 (fun H locs G => ?_)
          refine lv_if_eq (tgt := 99) hx hb dX3_send_94 (by decide) (fun c_94 => ?_) (fun c_94 => ?_)
          · exact False.elim (absurd c_94 (by decide))
          · skip
            refine lv_iconst (v := (-1)) hx hb dX3_send_97 (by decide) ?_
            exact x_iret B G (rfl) (rfl) dX3_send_98
      · exact False.elim (b2i_0.mp c_61 (hy7))
  · skip
    refine lv_aload_n hx hb dX3_send_5 rfl (lv_at hl 0 rfl) ?_
    refine lv_iload_n hx hb dX3_send_6 rfl (lv_at hl 3 rfl) ?_
    refine lv_iconst (v := 0) hx hb dX3_send_7 (by decide) ?_
    refine lv_iconst (v := 2) hx hb dX3_send_8 (by decide) ?_
    refine x_callVi (rest := []) B G (c_X3_between l M V p0 0 2) (cwV 3 B.1.2.2.2.2 gX3_send_X3_between rfl rfl rfl (by decide +kernel) ⟨Nat.le_of_ble_eq_true rfl, Nat.le_of_ble_eq_true rfl⟩) (m_recv B G M) rfl hl.1 rfl (Nat.le_of_ble_eq_true rfl) ⟨Nat.zero_le _, Nat.zero_le _⟩ dX3_send_9 (fun H locs G => ?_)
    refine lv_if_eq (tgt := 44) hx hb dX3_send_12 (by decide) (fun c_12 => ?_) (fun c_12 => ?_)
    · skip
      refine lv_iconst (v := 0) hx hb dX3_send_44 (by decide) ?_
      refine lv_istore (lv' := [(6, .int 0), (0, .ref (ad 17)), (1, .int x), (2, .int y), (3, .int p0), (4, .int c0), (5, .int t0)]) hx hb dX3_send_45 hl (by decide) rfl (fun ls hl => ?_)
      refine lv_aload_n hx hb dX3_send_47 rfl (lv_at hl 1 rfl) ?_
      refine lv_aload_n hx hb dX3_send_48 rfl (lv_at hl 1 rfl) ?_
      refine lv_iload_n hx hb dX3_send_49 rfl (lv_at hl 2 rfl) ?_
      refine x_callVi (rest := [.ref (ad 17)]) B G (c_X3_isNode l M V x) (cwV 1 B.1.2.2.2.2 gX3_send_X3_isNode rfl rfl rfl (by decide +kernel) ⟨Nat.le_of_ble_eq_true rfl, Nat.le_of_ble_eq_true rfl⟩) (m_recv B G M) rfl hl.1 rfl (Nat.le_of_ble_eq_true rfl) ⟨Nat.zero_le _, Nat.zero_le _⟩ dX3_send_50 (fun H locs G => ?_)
      refine lv_if_eq (tgt := 64) hx hb dX3_send_53 (by decide) (fun c_53 => ?_) (fun c_53 => ?_)
      · exact False.elim (b2i_0.mp c_53 (hx7))
      · skip
        refine lv_aload_n hx hb dX3_send_56 rfl (lv_at hl 1 rfl) ?_
        refine lv_iload_n hx hb dX3_send_57 rfl (lv_at hl 3 rfl) ?_
        refine x_callVi (rest := [.ref (ad 17)]) B G (c_X3_isNode l M V y) (cwV 1 B.1.2.2.2.2 gX3_send_X3_isNode rfl rfl rfl (by decide +kernel) ⟨Nat.le_of_ble_eq_true rfl, Nat.le_of_ble_eq_true rfl⟩) (m_recv B G M) rfl hl.1 rfl (Nat.le_of_ble_eq_true rfl) ⟨Nat.zero_le _, Nat.zero_le _⟩ dX3_send_58 (fun H locs G => ?_)
        refine lv_if_ne (tgt := 68) hx hb dX3_send_61 (by decide) (fun c_61 => ?_) (fun c_61 => ?_)
        · skip
          refine lv_iload hx hb dX3_send_68 (lv_at hl 0 rfl) ?_
          refine lv_if_ne (tgt := 77) hx hb dX3_send_70 (by decide) (fun c_70 => ?_) (fun c_70 => ?_)
          · exact False.elim (c_70 (by decide))
          · skip
            refine lv_iconst (v := 2) hx hb dX3_send_73 (by decide) ?_
            refine lv_goto (tgt := 91) hx hb dX3_send_74 (by decide) ?_
            refine x_callVi (rest := []) B G (c_X3_holds l M V 2) (cwV 1 B.1.2.2.2.2 gX3_send_X3_holds rfl rfl rfl (by decide +kernel) ⟨Nat.le_of_ble_eq_true rfl, Nat.le_of_ble_eq_true rfl⟩) (m_recv B G M) rfl hl.1 rfl (Nat.le_of_ble_eq_true rfl) ⟨Nat.zero_le _, Nat.zero_le _⟩ dX3_send_91 (fun H locs G => ?_)
            refine lv_if_eq (tgt := 99) hx hb dX3_send_94 (by decide) (fun c_94 => ?_) (fun c_94 => ?_)
            · exact False.elim (absurd c_94 (by decide))
            · skip
              refine lv_iconst (v := (-1)) hx hb dX3_send_97 (by decide) ?_
              exact x_iret B G (rfl) (rfl) dX3_send_98
        · exact False.elim (b2i_0.mp c_61 (hy7))
    · skip
      refine lv_aload_n hx hb dX3_send_15 rfl (lv_at hl 0 rfl) ?_
      refine lv_iload hx hb dX3_send_16 (lv_at hl 4 rfl) ?_
      refine lv_iconst (v := 1) hx hb dX3_send_18 (by decide) ?_
      refine lv_bipush (v := 64) hx hb dX3_send_19 (by decide) ?_
      refine x_callVi (rest := []) B G (c_X3_between l M V c0 1 64) (cwV 3 B.1.2.2.2.2 gX3_send_X3_between rfl rfl rfl (by decide +kernel) ⟨Nat.le_of_ble_eq_true rfl, Nat.le_of_ble_eq_true rfl⟩) (m_recv B G M) rfl hl.1 rfl (Nat.le_of_ble_eq_true rfl) ⟨Nat.zero_le _, Nat.zero_le _⟩ dX3_send_21 (fun H locs G => ?_)
      refine lv_if_eq (tgt := 44) hx hb dX3_send_24 (by decide) (fun c_24 => ?_) (fun c_24 => ?_)
      · skip
        refine lv_iconst (v := 0) hx hb dX3_send_44 (by decide) ?_
        refine lv_istore (lv' := [(6, .int 0), (0, .ref (ad 17)), (1, .int x), (2, .int y), (3, .int p0), (4, .int c0), (5, .int t0)]) hx hb dX3_send_45 hl (by decide) rfl (fun ls hl => ?_)
        refine lv_aload_n hx hb dX3_send_47 rfl (lv_at hl 1 rfl) ?_
        refine lv_aload_n hx hb dX3_send_48 rfl (lv_at hl 1 rfl) ?_
        refine lv_iload_n hx hb dX3_send_49 rfl (lv_at hl 2 rfl) ?_
        refine x_callVi (rest := [.ref (ad 17)]) B G (c_X3_isNode l M V x) (cwV 1 B.1.2.2.2.2 gX3_send_X3_isNode rfl rfl rfl (by decide +kernel) ⟨Nat.le_of_ble_eq_true rfl, Nat.le_of_ble_eq_true rfl⟩) (m_recv B G M) rfl hl.1 rfl (Nat.le_of_ble_eq_true rfl) ⟨Nat.zero_le _, Nat.zero_le _⟩ dX3_send_50 (fun H locs G => ?_)
        refine lv_if_eq (tgt := 64) hx hb dX3_send_53 (by decide) (fun c_53 => ?_) (fun c_53 => ?_)
        · exact False.elim (b2i_0.mp c_53 (hx7))
        · skip
          refine lv_aload_n hx hb dX3_send_56 rfl (lv_at hl 1 rfl) ?_
          refine lv_iload_n hx hb dX3_send_57 rfl (lv_at hl 3 rfl) ?_
          refine x_callVi (rest := [.ref (ad 17)]) B G (c_X3_isNode l M V y) (cwV 1 B.1.2.2.2.2 gX3_send_X3_isNode rfl rfl rfl (by decide +kernel) ⟨Nat.le_of_ble_eq_true rfl, Nat.le_of_ble_eq_true rfl⟩) (m_recv B G M) rfl hl.1 rfl (Nat.le_of_ble_eq_true rfl) ⟨Nat.zero_le _, Nat.zero_le _⟩ dX3_send_58 (fun H locs G => ?_)
          refine lv_if_ne (tgt := 68) hx hb dX3_send_61 (by decide) (fun c_61 => ?_) (fun c_61 => ?_)
          · skip
            refine lv_iload hx hb dX3_send_68 (lv_at hl 0 rfl) ?_
            refine lv_if_ne (tgt := 77) hx hb dX3_send_70 (by decide) (fun c_70 => ?_) (fun c_70 => ?_)
            · exact False.elim (c_70 (by decide))
            · skip
              refine lv_iconst (v := 2) hx hb dX3_send_73 (by decide) ?_
              refine lv_goto (tgt := 91) hx hb dX3_send_74 (by decide) ?_
              refine x_callVi (rest := []) B G (c_X3_holds l M V 2) (cwV 1 B.1.2.2.2.2 gX3_send_X3_holds rfl rfl rfl (by decide +kernel) ⟨Nat.le_of_ble_eq_true rfl, Nat.le_of_ble_eq_true rfl⟩) (m_recv B G M) rfl hl.1 rfl (Nat.le_of_ble_eq_true rfl) ⟨Nat.zero_le _, Nat.zero_le _⟩ dX3_send_91 (fun H locs G => ?_)
              refine lv_if_eq (tgt := 99) hx hb dX3_send_94 (by decide) (fun c_94 => ?_) (fun c_94 => ?_)
              · exact False.elim (absurd c_94 (by decide))
              · skip
                refine lv_iconst (v := (-1)) hx hb dX3_send_97 (by decide) ?_
                exact x_iret B G (rfl) (rfl) dX3_send_98
          · exact False.elim (b2i_0.mp c_61 (hy7))
      · skip
        refine lv_aload_n hx hb dX3_send_27 rfl (lv_at hl 0 rfl) ?_
        refine lv_iload hx hb dX3_send_28 (lv_at hl 5 rfl) ?_
        refine lv_iconst (v := 1) hx hb dX3_send_30 (by decide) ?_
        refine lv_sipush (v := 10000) hx hb dX3_send_31 (by decide) ?_
        refine x_callVi (rest := []) B G (c_X3_between l M V t0 1 10000) (cwV 3 B.1.2.2.2.2 gX3_send_X3_between rfl rfl rfl (by decide +kernel) ⟨Nat.le_of_ble_eq_true rfl, Nat.le_of_ble_eq_true rfl⟩) (m_recv B G M) rfl hl.1 rfl (Nat.le_of_ble_eq_true rfl) ⟨Nat.zero_le _, Nat.zero_le _⟩ dX3_send_34 (fun H locs G => ?_)
        refine lv_if_eq (tgt := 44) hx hb dX3_send_37 (by decide) (fun c_37 => ?_) (fun c_37 => ?_)
        · skip
          refine lv_iconst (v := 0) hx hb dX3_send_44 (by decide) ?_
          refine lv_istore (lv' := [(6, .int 0), (0, .ref (ad 17)), (1, .int x), (2, .int y), (3, .int p0), (4, .int c0), (5, .int t0)]) hx hb dX3_send_45 hl (by decide) rfl (fun ls hl => ?_)
          refine lv_aload_n hx hb dX3_send_47 rfl (lv_at hl 1 rfl) ?_
          refine lv_aload_n hx hb dX3_send_48 rfl (lv_at hl 1 rfl) ?_
          refine lv_iload_n hx hb dX3_send_49 rfl (lv_at hl 2 rfl) ?_
          refine x_callVi (rest := [.ref (ad 17)]) B G (c_X3_isNode l M V x) (cwV 1 B.1.2.2.2.2 gX3_send_X3_isNode rfl rfl rfl (by decide +kernel) ⟨Nat.le_of_ble_eq_true rfl, Nat.le_of_ble_eq_true rfl⟩) (m_recv B G M) rfl hl.1 rfl (Nat.le_of_ble_eq_true rfl) ⟨Nat.zero_le _, Nat.zero_le _⟩ dX3_send_50 (fun H locs G => ?_)
          refine lv_if_eq (tgt := 64) hx hb dX3_send_53 (by decide) (fun c_53 => ?_) (fun c_53 => ?_)
          · exact False.elim (b2i_0.mp c_53 (hx7))
          · skip
            refine lv_aload_n hx hb dX3_send_56 rfl (lv_at hl 1 rfl) ?_
            refine lv_iload_n hx hb dX3_send_57 rfl (lv_at hl 3 rfl) ?_
            refine x_callVi (rest := [.ref (ad 17)]) B G (c_X3_isNode l M V y) (cwV 1 B.1.2.2.2.2 gX3_send_X3_isNode rfl rfl rfl (by decide +kernel) ⟨Nat.le_of_ble_eq_true rfl, Nat.le_of_ble_eq_true rfl⟩) (m_recv B G M) rfl hl.1 rfl (Nat.le_of_ble_eq_true rfl) ⟨Nat.zero_le _, Nat.zero_le _⟩ dX3_send_58 (fun H locs G => ?_)
            refine lv_if_ne (tgt := 68) hx hb dX3_send_61 (by decide) (fun c_61 => ?_) (fun c_61 => ?_)
            · skip
              refine lv_iload hx hb dX3_send_68 (lv_at hl 0 rfl) ?_
              refine lv_if_ne (tgt := 77) hx hb dX3_send_70 (by decide) (fun c_70 => ?_) (fun c_70 => ?_)
              · exact False.elim (c_70 (by decide))
              · skip
                refine lv_iconst (v := 2) hx hb dX3_send_73 (by decide) ?_
                refine lv_goto (tgt := 91) hx hb dX3_send_74 (by decide) ?_
                refine x_callVi (rest := []) B G (c_X3_holds l M V 2) (cwV 1 B.1.2.2.2.2 gX3_send_X3_holds rfl rfl rfl (by decide +kernel) ⟨Nat.le_of_ble_eq_true rfl, Nat.le_of_ble_eq_true rfl⟩) (m_recv B G M) rfl hl.1 rfl (Nat.le_of_ble_eq_true rfl) ⟨Nat.zero_le _, Nat.zero_le _⟩ dX3_send_91 (fun H locs G => ?_)
                refine lv_if_eq (tgt := 99) hx hb dX3_send_94 (by decide) (fun c_94 => ?_) (fun c_94 => ?_)
                · exact False.elim (absurd c_94 (by decide))
                · skip
                  refine lv_iconst (v := (-1)) hx hb dX3_send_97 (by decide) ?_
                  exact x_iret B G (rfl) (rfl) dX3_send_98
            · exact False.elim (b2i_0.mp c_61 (hy7))
        · skip
          exact absurd ⟨c_2, b2i_1 c_12, b2i_1 c_24, b2i_1 c_37⟩ h
set_option maxHeartbeats 4000000 in
set_option maxRecDepth 100000 in
theorem c_X3_send_bad3 (l : Launch) {D : va_G} {sh : xS} {ad : Nat → Nat} {cI : ClassId} {tys : List (ClassId × FieldType)} (M : xMm sh ad cI tys) (V : xV) (x y p0 c0 t0 : Int32) (hx7 : 0 ≤ x ∧ x ≤ 7) (hy7 : 0 ≤ y ∧ y ≤ 7) (h : x ≠ y ∧ (0 ≤ p0 ∧ p0 ≤ 2) ∧ (1 ≤ c0 ∧ c0 ≤ 64) ∧ (1 ≤ t0 ∧ t0 ≤ 10000)) (h40 : V 17 17 = 40) : xMi l yX3_send wsX3_send (rmK 3) D sh ad tys V [.ref (ad 17), .int x, .int y, .int p0, .int c0, .int t0] (-1) (xu V 17 20 3) := by
  refine xOfi (cc := cX3_send) (nL := 7) (ret := some .int) (own := RX3) (by decide) rfl rfl (Nat.le_of_ble_eq_true rfl) M.2.2 ?_
  intro p e s m args below meth c A ls B G hl
  have hx := B.1.1
  have hb := B.1.2.1
  have hin : ∀ w ∈ wsX30, w ∈ wsX3_send := by decide +kernel
  have hl : lv_has ls 7 [(0, .ref (ad 17)), (1, .int x), (2, .int y), (3, .int p0), (4, .int c0), (5, .int t0)] := hl
  refine lv_iload_n hx hb dX3_send_0 rfl (lv_at hl 1 rfl) ?_
  refine lv_iload_n hx hb dX3_send_1 rfl (lv_at hl 2 rfl) ?_
  refine lv_icmp_eq (tgt := 44) hx hb dX3_send_2 (by decide) (fun c_2 => ?_) (fun c_2 => ?_)
  · exact False.elim (h.1 c_2)
  · skip
    refine lv_aload_n hx hb dX3_send_5 rfl (lv_at hl 0 rfl) ?_
    refine lv_iload_n hx hb dX3_send_6 rfl (lv_at hl 3 rfl) ?_
    refine lv_iconst (v := 0) hx hb dX3_send_7 (by decide) ?_
    refine lv_iconst (v := 2) hx hb dX3_send_8 (by decide) ?_
    refine x_callVi (rest := []) B G (c_X3_between l M V p0 0 2) (cwV 3 B.1.2.2.2.2 gX3_send_X3_between rfl rfl rfl (by decide +kernel) ⟨Nat.le_of_ble_eq_true rfl, Nat.le_of_ble_eq_true rfl⟩) (m_recv B G M) rfl hl.1 rfl (Nat.le_of_ble_eq_true rfl) ⟨Nat.zero_le _, Nat.zero_le _⟩ dX3_send_9 (fun H locs G => ?_)
    refine lv_if_eq (tgt := 44) hx hb dX3_send_12 (by decide) (fun c_12 => ?_) (fun c_12 => ?_)
    · exact False.elim (b2i_0.mp c_12 (h.2.1))
    · skip
      refine lv_aload_n hx hb dX3_send_15 rfl (lv_at hl 0 rfl) ?_
      refine lv_iload hx hb dX3_send_16 (lv_at hl 4 rfl) ?_
      refine lv_iconst (v := 1) hx hb dX3_send_18 (by decide) ?_
      refine lv_bipush (v := 64) hx hb dX3_send_19 (by decide) ?_
      refine x_callVi (rest := []) B G (c_X3_between l M V c0 1 64) (cwV 3 B.1.2.2.2.2 gX3_send_X3_between rfl rfl rfl (by decide +kernel) ⟨Nat.le_of_ble_eq_true rfl, Nat.le_of_ble_eq_true rfl⟩) (m_recv B G M) rfl hl.1 rfl (Nat.le_of_ble_eq_true rfl) ⟨Nat.zero_le _, Nat.zero_le _⟩ dX3_send_21 (fun H locs G => ?_)
      refine lv_if_eq (tgt := 44) hx hb dX3_send_24 (by decide) (fun c_24 => ?_) (fun c_24 => ?_)
      · exact False.elim (b2i_0.mp c_24 (h.2.2.1))
      · skip
        refine lv_aload_n hx hb dX3_send_27 rfl (lv_at hl 0 rfl) ?_
        refine lv_iload hx hb dX3_send_28 (lv_at hl 5 rfl) ?_
        refine lv_iconst (v := 1) hx hb dX3_send_30 (by decide) ?_
        refine lv_sipush (v := 10000) hx hb dX3_send_31 (by decide) ?_
        refine x_callVi (rest := []) B G (c_X3_between l M V t0 1 10000) (cwV 3 B.1.2.2.2.2 gX3_send_X3_between rfl rfl rfl (by decide +kernel) ⟨Nat.le_of_ble_eq_true rfl, Nat.le_of_ble_eq_true rfl⟩) (m_recv B G M) rfl hl.1 rfl (Nat.le_of_ble_eq_true rfl) ⟨Nat.zero_le _, Nat.zero_le _⟩ dX3_send_34 (fun H locs G => ?_)
        refine lv_if_eq (tgt := 44) hx hb dX3_send_37 (by decide) (fun c_37 => ?_) (fun c_37 => ?_)
        · exact False.elim (b2i_0.mp c_37 (h.2.2.2))
        · skip
          refine lv_iconst (v := 1) hx hb dX3_send_40 (by decide) ?_
          refine lv_goto (tgt := 45) hx hb dX3_send_41 (by decide) ?_
          refine lv_istore (lv' := [(6, .int 1), (0, .ref (ad 17)), (1, .int x), (2, .int y), (3, .int p0), (4, .int c0), (5, .int t0)]) hx hb dX3_send_45 hl (by decide) rfl (fun ls hl => ?_)
          refine lv_aload_n hx hb dX3_send_47 rfl (lv_at hl 1 rfl) ?_
          refine lv_aload_n hx hb dX3_send_48 rfl (lv_at hl 1 rfl) ?_
          refine lv_iload_n hx hb dX3_send_49 rfl (lv_at hl 2 rfl) ?_
          refine x_callVi (rest := [.ref (ad 17)]) B G (c_X3_isNode l M V x) (cwV 1 B.1.2.2.2.2 gX3_send_X3_isNode rfl rfl rfl (by decide +kernel) ⟨Nat.le_of_ble_eq_true rfl, Nat.le_of_ble_eq_true rfl⟩) (m_recv B G M) rfl hl.1 rfl (Nat.le_of_ble_eq_true rfl) ⟨Nat.zero_le _, Nat.zero_le _⟩ dX3_send_50 (fun H locs G => ?_)
          refine lv_if_eq (tgt := 64) hx hb dX3_send_53 (by decide) (fun c_53 => ?_) (fun c_53 => ?_)
          · exact False.elim (b2i_0.mp c_53 (hx7))
          · skip
            refine lv_aload_n hx hb dX3_send_56 rfl (lv_at hl 1 rfl) ?_
            refine lv_iload_n hx hb dX3_send_57 rfl (lv_at hl 3 rfl) ?_
            refine x_callVi (rest := [.ref (ad 17)]) B G (c_X3_isNode l M V y) (cwV 1 B.1.2.2.2.2 gX3_send_X3_isNode rfl rfl rfl (by decide +kernel) ⟨Nat.le_of_ble_eq_true rfl, Nat.le_of_ble_eq_true rfl⟩) (m_recv B G M) rfl hl.1 rfl (Nat.le_of_ble_eq_true rfl) ⟨Nat.zero_le _, Nat.zero_le _⟩ dX3_send_58 (fun H locs G => ?_)
            refine lv_if_ne (tgt := 68) hx hb dX3_send_61 (by decide) (fun c_61 => ?_) (fun c_61 => ?_)
            · skip
              refine lv_iload hx hb dX3_send_68 (lv_at hl 0 rfl) ?_
              refine lv_if_ne (tgt := 77) hx hb dX3_send_70 (by decide) (fun c_70 => ?_) (fun c_70 => ?_)
              · skip
                refine lv_aload_n hx hb dX3_send_77 rfl (lv_at hl 1 rfl) ?_
                refine m_getI B G M hin 17 (by decide) (by decide +kernel) dX3_send_78 ?_
                refine lv_bipush (v := 40) hx hb dX3_send_81 (by decide) ?_
                refine lv_icmp_ne (tgt := 90) hx hb dX3_send_83 (by decide) (fun c_83 => ?_) (fun c_83 => ?_)
                · exact False.elim (c_83 h40)
                · skip
                  refine lv_iconst (v := 3) hx hb dX3_send_86 (by decide) ?_
                  refine lv_goto (tgt := 91) hx hb dX3_send_87 (by decide) ?_
                  refine x_callVi (rest := []) B G (c_X3_holds l M V 3) (cwV 1 B.1.2.2.2.2 gX3_send_X3_holds rfl rfl rfl (by decide +kernel) ⟨Nat.le_of_ble_eq_true rfl, Nat.le_of_ble_eq_true rfl⟩) (m_recv B G M) rfl hl.1 rfl (Nat.le_of_ble_eq_true rfl) ⟨Nat.zero_le _, Nat.zero_le _⟩ dX3_send_91 (fun H locs G => ?_)
                  refine lv_if_eq (tgt := 99) hx hb dX3_send_94 (by decide) (fun c_94 => ?_) (fun c_94 => ?_)
                  · exact False.elim (absurd c_94 (by decide))
                  · skip
                    refine lv_iconst (v := (-1)) hx hb dX3_send_97 (by decide) ?_
                    exact x_iret B G (rfl) (rfl) dX3_send_98
              · exact False.elim (absurd c_70 (by decide))
            · exact False.elim (b2i_0.mp c_61 (hy7))
set_option maxHeartbeats 4000000 in
set_option maxRecDepth 100000 in
theorem c_X3_send_bad4 (l : Launch) {D : va_G} {sh : xS} {ad : Nat → Nat} {cI : ClassId} {tys : List (ClassId × FieldType)} (M : xMm sh ad cI tys) (V : xV) (n cnt : Nat) (y p0 c0 t0 : Int32) (hn : n < 8) (hy7 : 0 ≤ y ∧ y ≤ 7) (h : nI n ≠ y ∧ (0 ≤ p0 ∧ p0 ≤ 2) ∧ (1 ≤ c0 ∧ c0 ≤ 64) ∧ (1 ≤ t0 ∧ t0 ≤ 10000)) (hr : ¬ (mRoomB (xu V 17 20 0) n p0 cnt = true)) (hcnt : V 17 17 = nI cnt) (hc40 : cnt < 40) : xMi l yX3_send wsX3_send (rmK 3) D sh ad tys V [.ref (ad 17), .int (nI n), .int y, .int p0, .int c0, .int t0] (-1) (xu (mRoomV (xu V 17 20 0) n p0 cnt) 17 20 3) := by
  refine xOfi (cc := cX3_send) (nL := 7) (ret := some .int) (own := RX3) (by decide) rfl rfl (Nat.le_of_ble_eq_true rfl) M.2.2 ?_
  intro p e s m args below meth c A ls B G hl
  have hx := B.1.1
  have hb := B.1.2.1
  have hin : ∀ w ∈ wsX30, w ∈ wsX3_send := by decide +kernel
  have hl : lv_has ls 7 [(0, .ref (ad 17)), (1, .int (nI n)), (2, .int y), (3, .int p0), (4, .int c0), (5, .int t0)] := hl
  refine lv_iload_n hx hb dX3_send_0 rfl (lv_at hl 1 rfl) ?_
  refine lv_iload_n hx hb dX3_send_1 rfl (lv_at hl 2 rfl) ?_
  refine lv_icmp_eq (tgt := 44) hx hb dX3_send_2 (by decide) (fun c_2 => ?_) (fun c_2 => ?_)
  · exact False.elim (h.1 c_2)
  · skip
    refine lv_aload_n hx hb dX3_send_5 rfl (lv_at hl 0 rfl) ?_
    refine lv_iload_n hx hb dX3_send_6 rfl (lv_at hl 3 rfl) ?_
    refine lv_iconst (v := 0) hx hb dX3_send_7 (by decide) ?_
    refine lv_iconst (v := 2) hx hb dX3_send_8 (by decide) ?_
    refine x_callVi (rest := []) B G (c_X3_between l M V p0 0 2) (cwV 3 B.1.2.2.2.2 gX3_send_X3_between rfl rfl rfl (by decide +kernel) ⟨Nat.le_of_ble_eq_true rfl, Nat.le_of_ble_eq_true rfl⟩) (m_recv B G M) rfl hl.1 rfl (Nat.le_of_ble_eq_true rfl) ⟨Nat.zero_le _, Nat.zero_le _⟩ dX3_send_9 (fun H locs G => ?_)
    refine lv_if_eq (tgt := 44) hx hb dX3_send_12 (by decide) (fun c_12 => ?_) (fun c_12 => ?_)
    · exact False.elim (b2i_0.mp c_12 (h.2.1))
    · skip
      refine lv_aload_n hx hb dX3_send_15 rfl (lv_at hl 0 rfl) ?_
      refine lv_iload hx hb dX3_send_16 (lv_at hl 4 rfl) ?_
      refine lv_iconst (v := 1) hx hb dX3_send_18 (by decide) ?_
      refine lv_bipush (v := 64) hx hb dX3_send_19 (by decide) ?_
      refine x_callVi (rest := []) B G (c_X3_between l M V c0 1 64) (cwV 3 B.1.2.2.2.2 gX3_send_X3_between rfl rfl rfl (by decide +kernel) ⟨Nat.le_of_ble_eq_true rfl, Nat.le_of_ble_eq_true rfl⟩) (m_recv B G M) rfl hl.1 rfl (Nat.le_of_ble_eq_true rfl) ⟨Nat.zero_le _, Nat.zero_le _⟩ dX3_send_21 (fun H locs G => ?_)
      refine lv_if_eq (tgt := 44) hx hb dX3_send_24 (by decide) (fun c_24 => ?_) (fun c_24 => ?_)
      · exact False.elim (b2i_0.mp c_24 (h.2.2.1))
      · skip
        refine lv_aload_n hx hb dX3_send_27 rfl (lv_at hl 0 rfl) ?_
        refine lv_iload hx hb dX3_send_28 (lv_at hl 5 rfl) ?_
        refine lv_iconst (v := 1) hx hb dX3_send_30 (by decide) ?_
        refine lv_sipush (v := 10000) hx hb dX3_send_31 (by decide) ?_
        refine x_callVi (rest := []) B G (c_X3_between l M V t0 1 10000) (cwV 3 B.1.2.2.2.2 gX3_send_X3_between rfl rfl rfl (by decide +kernel) ⟨Nat.le_of_ble_eq_true rfl, Nat.le_of_ble_eq_true rfl⟩) (m_recv B G M) rfl hl.1 rfl (Nat.le_of_ble_eq_true rfl) ⟨Nat.zero_le _, Nat.zero_le _⟩ dX3_send_34 (fun H locs G => ?_)
        refine lv_if_eq (tgt := 44) hx hb dX3_send_37 (by decide) (fun c_37 => ?_) (fun c_37 => ?_)
        · exact False.elim (b2i_0.mp c_37 (h.2.2.2))
        · skip
          refine lv_iconst (v := 1) hx hb dX3_send_40 (by decide) ?_
          refine lv_goto (tgt := 45) hx hb dX3_send_41 (by decide) ?_
          refine lv_istore (lv' := [(6, .int 1), (0, .ref (ad 17)), (1, .int (nI n)), (2, .int y), (3, .int p0), (4, .int c0), (5, .int t0)]) hx hb dX3_send_45 hl (by decide) rfl (fun ls hl => ?_)
          refine lv_aload_n hx hb dX3_send_47 rfl (lv_at hl 1 rfl) ?_
          refine lv_aload_n hx hb dX3_send_48 rfl (lv_at hl 1 rfl) ?_
          refine lv_iload_n hx hb dX3_send_49 rfl (lv_at hl 2 rfl) ?_
          refine x_callVi (rest := [.ref (ad 17)]) B G (c_X3_isNode l M V (nI n)) (cwV 1 B.1.2.2.2.2 gX3_send_X3_isNode rfl rfl rfl (by decide +kernel) ⟨Nat.le_of_ble_eq_true rfl, Nat.le_of_ble_eq_true rfl⟩) (m_recv B G M) rfl hl.1 rfl (Nat.le_of_ble_eq_true rfl) ⟨Nat.zero_le _, Nat.zero_le _⟩ dX3_send_50 (fun H locs G => ?_)
          refine lv_if_eq (tgt := 64) hx hb dX3_send_53 (by decide) (fun c_53 => ?_) (fun c_53 => ?_)
          · exact False.elim (b2i_0.mp c_53 (nodeOK hn))
          · skip
            refine lv_aload_n hx hb dX3_send_56 rfl (lv_at hl 1 rfl) ?_
            refine lv_iload_n hx hb dX3_send_57 rfl (lv_at hl 3 rfl) ?_
            refine x_callVi (rest := [.ref (ad 17)]) B G (c_X3_isNode l M V y) (cwV 1 B.1.2.2.2.2 gX3_send_X3_isNode rfl rfl rfl (by decide +kernel) ⟨Nat.le_of_ble_eq_true rfl, Nat.le_of_ble_eq_true rfl⟩) (m_recv B G M) rfl hl.1 rfl (Nat.le_of_ble_eq_true rfl) ⟨Nat.zero_le _, Nat.zero_le _⟩ dX3_send_58 (fun H locs G => ?_)
            refine lv_if_ne (tgt := 68) hx hb dX3_send_61 (by decide) (fun c_61 => ?_) (fun c_61 => ?_)
            · skip
              refine lv_iload hx hb dX3_send_68 (lv_at hl 0 rfl) ?_
              refine lv_if_ne (tgt := 77) hx hb dX3_send_70 (by decide) (fun c_70 => ?_) (fun c_70 => ?_)
              · skip
                refine lv_aload_n hx hb dX3_send_77 rfl (lv_at hl 1 rfl) ?_
                refine m_getI B G M hin 17 (by decide) (by decide +kernel) dX3_send_78 ?_
                refine x_top (show _ = nI cnt from hcnt) ?_
                refine lv_bipush (v := 40) hx hb dX3_send_81 (by decide) ?_
                refine lv_icmp_ne (tgt := 90) hx hb dX3_send_83 (by decide) (fun c_83 => ?_) (fun c_83 => ?_)
                · skip
                  have c_83 : ¬ (cnt = 40) := fun h9 => c_83 ((nI_eq (a := cnt) (b := 40) (by omega) (by omega)).mpr h9)
                  refine lv_iconst (v := 0) hx hb dX3_send_90 (by decide) ?_
                  refine x_callVi (rest := []) B G (c_X3_holds l M V 0) (cwV 1 B.1.2.2.2.2 gX3_send_X3_holds rfl rfl rfl (by decide +kernel) ⟨Nat.le_of_ble_eq_true rfl, Nat.le_of_ble_eq_true rfl⟩) (m_recv B G M) rfl hl.1 rfl (Nat.le_of_ble_eq_true rfl) ⟨Nat.zero_le _, Nat.zero_le _⟩ dX3_send_91 (fun H locs G => ?_)
                  refine lv_if_eq (tgt := 99) hx hb dX3_send_94 (by decide) (fun c_94 => ?_) (fun c_94 => ?_)
                  · skip
                    refine lv_aload_n hx hb dX3_send_99 rfl (lv_at hl 1 rfl) ?_
                    refine lv_aload_n hx hb dX3_send_100 rfl (lv_at hl 1 rfl) ?_
                    refine lv_iload_n hx hb dX3_send_101 rfl (lv_at hl 2 rfl) ?_
                    refine lv_iload_n hx hb dX3_send_102 rfl (lv_at hl 4 rfl) ?_
                    refine x_callVi (rest := [.ref (ad 17)]) B G (c_X3_hasRoom l M (xu V 17 20 0) n cnt p0 hn hcnt (by omega)) (cwV 2 B.1.2.2.2.2 gX3_send_X3_hasRoom rfl rfl rfl (by decide +kernel) ⟨Nat.le_of_ble_eq_true rfl, Nat.le_of_ble_eq_true rfl⟩) (m_recv B G M) rfl hl.1 rfl (Nat.le_of_ble_eq_true rfl) ⟨Nat.zero_le _, Nat.zero_le _⟩ dX3_send_103 (fun H locs G => ?_)
                    refine lv_if_eq (tgt := 113) hx hb dX3_send_106 (by decide) (fun c_106 => ?_) (fun c_106 => ?_)
                    · skip
                      refine lv_iconst (v := 3) hx hb dX3_send_113 (by decide) ?_
                      refine x_callVi (rest := []) B G (c_X3_holds l M (mRoomV (xu V 17 20 0) n p0 cnt) 3) (cwV 1 B.1.2.2.2.2 gX3_send_X3_holds rfl rfl rfl (by decide +kernel) ⟨Nat.le_of_ble_eq_true rfl, Nat.le_of_ble_eq_true rfl⟩) (m_recv B G M) rfl hl.1 rfl (Nat.le_of_ble_eq_true rfl) ⟨Nat.zero_le _, Nat.zero_le _⟩ dX3_send_114 (fun H locs G => ?_)
                      refine lv_if_eq (tgt := 122) hx hb dX3_send_117 (by decide) (fun c_117 => ?_) (fun c_117 => ?_)
                      · exact False.elim (absurd c_117 (by decide))
                      · skip
                        refine lv_iconst (v := (-1)) hx hb dX3_send_120 (by decide) ?_
                        exact x_iret B G (rfl) (rfl) dX3_send_121
                    · exact False.elim (c_106 (b2i_f (hr)))
                  · exact False.elim (c_94 (by decide))
                · exact False.elim (absurd ((nI_eq (a := cnt) (b := 40) (by omega) (by omega)).mp c_83) (by omega))
              · exact False.elim (absurd c_70 (by decide))
            · exact False.elim (b2i_0.mp c_61 (hy7))
theorem mRoomV_o (V : xV) (n : Nat) (p : Int32) (cnt : Nat) {i : Nat} (h6 : i ≠ 6) (h10 : i ≠ 10) : mRoomV V n p cnt i = V i := by
  unfold mRoomV
  split
  · split
    · rfl
    · split
      · rw [xu_ne _ _ _ h10, xu_ne _ _ _ h6]
      · rfl
  · rfl
def mSend (W : xV) (n : Nat) (y p c t : Int32) (cnt : Nat) : xV :=
  xu (xu (xu (xu (xu (xu (xu W 0 cnt y) 1 cnt p) 2 cnt (W 17 19 + t)) 3 cnt (nI n)) 4 cnt (-1)) 6 (40 * n + cnt) c) 17 17 (nI (cnt + 1))
set_option maxHeartbeats 4000000 in
set_option maxRecDepth 100000 in
theorem c_X3_send_ok (l : Launch) {D : va_G} {sh : xS} {ad : Nat → Nat} {cI : ClassId} {tys : List (ClassId × FieldType)} (M : xMm sh ad cI tys) (V : xV) (n cnt : Nat) (y p0 c0 t0 : Int32) (hn : n < 8) (hy7 : 0 ≤ y ∧ y ≤ 7) (h : nI n ≠ y ∧ (0 ≤ p0 ∧ p0 ≤ 2) ∧ (1 ≤ c0 ∧ c0 ≤ 64) ∧ (1 ≤ t0 ∧ t0 ≤ 10000)) (hr : mRoomB (xu V 17 20 0) n p0 cnt = true) (hcnt : V 17 17 = nI cnt) (hc40 : cnt < 40) : xMi l yX3_send wsX3_send (rmK 3) D sh ad tys V [.ref (ad 17), .int (nI n), .int y, .int p0, .int c0, .int t0] (nI cnt) (mSend (xu (mRoomV (xu V 17 20 0) n p0 cnt) 17 20 0) n y p0 c0 t0 cnt) := by
  refine xOfi (cc := cX3_send) (nL := 7) (ret := some .int) (own := RX3) (by decide) rfl rfl (Nat.le_of_ble_eq_true rfl) M.2.2 ?_
  intro p e s m args below meth c A ls B G hl
  have hx := B.1.1
  have hb := B.1.2.1
  have hin : ∀ w ∈ wsX30, w ∈ wsX3_send := by decide +kernel
  have hl : lv_has ls 7 [(0, .ref (ad 17)), (1, .int (nI n)), (2, .int y), (3, .int p0), (4, .int c0), (5, .int t0)] := hl
  refine lv_iload_n hx hb dX3_send_0 rfl (lv_at hl 1 rfl) ?_
  refine lv_iload_n hx hb dX3_send_1 rfl (lv_at hl 2 rfl) ?_
  refine lv_icmp_eq (tgt := 44) hx hb dX3_send_2 (by decide) (fun c_2 => ?_) (fun c_2 => ?_)
  · exact False.elim (h.1 c_2)
  · skip
    refine lv_aload_n hx hb dX3_send_5 rfl (lv_at hl 0 rfl) ?_
    refine lv_iload_n hx hb dX3_send_6 rfl (lv_at hl 3 rfl) ?_
    refine lv_iconst (v := 0) hx hb dX3_send_7 (by decide) ?_
    refine lv_iconst (v := 2) hx hb dX3_send_8 (by decide) ?_
    refine x_callVi (rest := []) B G (c_X3_between l M V p0 0 2) (cwV 3 B.1.2.2.2.2 gX3_send_X3_between rfl rfl rfl (by decide +kernel) ⟨Nat.le_of_ble_eq_true rfl, Nat.le_of_ble_eq_true rfl⟩) (m_recv B G M) rfl hl.1 rfl (Nat.le_of_ble_eq_true rfl) ⟨Nat.zero_le _, Nat.zero_le _⟩ dX3_send_9 (fun H locs G => ?_)
    refine lv_if_eq (tgt := 44) hx hb dX3_send_12 (by decide) (fun c_12 => ?_) (fun c_12 => ?_)
    · exact False.elim (b2i_0.mp c_12 (h.2.1))
    · skip
      refine lv_aload_n hx hb dX3_send_15 rfl (lv_at hl 0 rfl) ?_
      refine lv_iload hx hb dX3_send_16 (lv_at hl 4 rfl) ?_
      refine lv_iconst (v := 1) hx hb dX3_send_18 (by decide) ?_
      refine lv_bipush (v := 64) hx hb dX3_send_19 (by decide) ?_
      refine x_callVi (rest := []) B G (c_X3_between l M V c0 1 64) (cwV 3 B.1.2.2.2.2 gX3_send_X3_between rfl rfl rfl (by decide +kernel) ⟨Nat.le_of_ble_eq_true rfl, Nat.le_of_ble_eq_true rfl⟩) (m_recv B G M) rfl hl.1 rfl (Nat.le_of_ble_eq_true rfl) ⟨Nat.zero_le _, Nat.zero_le _⟩ dX3_send_21 (fun H locs G => ?_)
      refine lv_if_eq (tgt := 44) hx hb dX3_send_24 (by decide) (fun c_24 => ?_) (fun c_24 => ?_)
      · exact False.elim (b2i_0.mp c_24 (h.2.2.1))
      · skip
        refine lv_aload_n hx hb dX3_send_27 rfl (lv_at hl 0 rfl) ?_
        refine lv_iload hx hb dX3_send_28 (lv_at hl 5 rfl) ?_
        refine lv_iconst (v := 1) hx hb dX3_send_30 (by decide) ?_
        refine lv_sipush (v := 10000) hx hb dX3_send_31 (by decide) ?_
        refine x_callVi (rest := []) B G (c_X3_between l M V t0 1 10000) (cwV 3 B.1.2.2.2.2 gX3_send_X3_between rfl rfl rfl (by decide +kernel) ⟨Nat.le_of_ble_eq_true rfl, Nat.le_of_ble_eq_true rfl⟩) (m_recv B G M) rfl hl.1 rfl (Nat.le_of_ble_eq_true rfl) ⟨Nat.zero_le _, Nat.zero_le _⟩ dX3_send_34 (fun H locs G => ?_)
        refine lv_if_eq (tgt := 44) hx hb dX3_send_37 (by decide) (fun c_37 => ?_) (fun c_37 => ?_)
        · exact False.elim (b2i_0.mp c_37 (h.2.2.2))
        · skip
          refine lv_iconst (v := 1) hx hb dX3_send_40 (by decide) ?_
          refine lv_goto (tgt := 45) hx hb dX3_send_41 (by decide) ?_
          refine lv_istore (lv' := [(6, .int 1), (0, .ref (ad 17)), (1, .int (nI n)), (2, .int y), (3, .int p0), (4, .int c0), (5, .int t0)]) hx hb dX3_send_45 hl (by decide) rfl (fun ls hl => ?_)
          refine lv_aload_n hx hb dX3_send_47 rfl (lv_at hl 1 rfl) ?_
          refine lv_aload_n hx hb dX3_send_48 rfl (lv_at hl 1 rfl) ?_
          refine lv_iload_n hx hb dX3_send_49 rfl (lv_at hl 2 rfl) ?_
          refine x_callVi (rest := [.ref (ad 17)]) B G (c_X3_isNode l M V (nI n)) (cwV 1 B.1.2.2.2.2 gX3_send_X3_isNode rfl rfl rfl (by decide +kernel) ⟨Nat.le_of_ble_eq_true rfl, Nat.le_of_ble_eq_true rfl⟩) (m_recv B G M) rfl hl.1 rfl (Nat.le_of_ble_eq_true rfl) ⟨Nat.zero_le _, Nat.zero_le _⟩ dX3_send_50 (fun H locs G => ?_)
          refine lv_if_eq (tgt := 64) hx hb dX3_send_53 (by decide) (fun c_53 => ?_) (fun c_53 => ?_)
          · exact False.elim (b2i_0.mp c_53 (nodeOK hn))
          · skip
            refine lv_aload_n hx hb dX3_send_56 rfl (lv_at hl 1 rfl) ?_
            refine lv_iload_n hx hb dX3_send_57 rfl (lv_at hl 3 rfl) ?_
            refine x_callVi (rest := [.ref (ad 17)]) B G (c_X3_isNode l M V y) (cwV 1 B.1.2.2.2.2 gX3_send_X3_isNode rfl rfl rfl (by decide +kernel) ⟨Nat.le_of_ble_eq_true rfl, Nat.le_of_ble_eq_true rfl⟩) (m_recv B G M) rfl hl.1 rfl (Nat.le_of_ble_eq_true rfl) ⟨Nat.zero_le _, Nat.zero_le _⟩ dX3_send_58 (fun H locs G => ?_)
            refine lv_if_ne (tgt := 68) hx hb dX3_send_61 (by decide) (fun c_61 => ?_) (fun c_61 => ?_)
            · skip
              refine lv_iload hx hb dX3_send_68 (lv_at hl 0 rfl) ?_
              refine lv_if_ne (tgt := 77) hx hb dX3_send_70 (by decide) (fun c_70 => ?_) (fun c_70 => ?_)
              · skip
                refine lv_aload_n hx hb dX3_send_77 rfl (lv_at hl 1 rfl) ?_
                refine m_getI B G M hin 17 (by decide) (by decide +kernel) dX3_send_78 ?_
                refine x_top (show _ = nI cnt from hcnt) ?_
                refine lv_bipush (v := 40) hx hb dX3_send_81 (by decide) ?_
                refine lv_icmp_ne (tgt := 90) hx hb dX3_send_83 (by decide) (fun c_83 => ?_) (fun c_83 => ?_)
                · skip
                  have c_83 : ¬ (cnt = 40) := fun h9 => c_83 ((nI_eq (a := cnt) (b := 40) (by omega) (by omega)).mpr h9)
                  refine lv_iconst (v := 0) hx hb dX3_send_90 (by decide) ?_
                  refine x_callVi (rest := []) B G (c_X3_holds l M V 0) (cwV 1 B.1.2.2.2.2 gX3_send_X3_holds rfl rfl rfl (by decide +kernel) ⟨Nat.le_of_ble_eq_true rfl, Nat.le_of_ble_eq_true rfl⟩) (m_recv B G M) rfl hl.1 rfl (Nat.le_of_ble_eq_true rfl) ⟨Nat.zero_le _, Nat.zero_le _⟩ dX3_send_91 (fun H locs G => ?_)
                  refine lv_if_eq (tgt := 99) hx hb dX3_send_94 (by decide) (fun c_94 => ?_) (fun c_94 => ?_)
                  · skip
                    refine lv_aload_n hx hb dX3_send_99 rfl (lv_at hl 1 rfl) ?_
                    refine lv_aload_n hx hb dX3_send_100 rfl (lv_at hl 1 rfl) ?_
                    refine lv_iload_n hx hb dX3_send_101 rfl (lv_at hl 2 rfl) ?_
                    refine lv_iload_n hx hb dX3_send_102 rfl (lv_at hl 4 rfl) ?_
                    refine x_callVi (rest := [.ref (ad 17)]) B G (c_X3_hasRoom l M (xu V 17 20 0) n cnt p0 hn hcnt (by omega)) (cwV 2 B.1.2.2.2.2 gX3_send_X3_hasRoom rfl rfl rfl (by decide +kernel) ⟨Nat.le_of_ble_eq_true rfl, Nat.le_of_ble_eq_true rfl⟩) (m_recv B G M) rfl hl.1 rfl (Nat.le_of_ble_eq_true rfl) ⟨Nat.zero_le _, Nat.zero_le _⟩ dX3_send_103 (fun H locs G => ?_)
                    refine lv_if_eq (tgt := 113) hx hb dX3_send_106 (by decide) (fun c_106 => ?_) (fun c_106 => ?_)
                    · exact False.elim (b2i_0.mp c_106 (hr))
                    · skip
                      refine lv_iconst (v := 0) hx hb dX3_send_109 (by decide) ?_
                      refine lv_goto (tgt := 114) hx hb dX3_send_110 (by decide) ?_
                      refine x_callVi (rest := []) B G (c_X3_holds l M (mRoomV (xu V 17 20 0) n p0 cnt) 0) (cwV 1 B.1.2.2.2.2 gX3_send_X3_holds rfl rfl rfl (by decide +kernel) ⟨Nat.le_of_ble_eq_true rfl, Nat.le_of_ble_eq_true rfl⟩) (m_recv B G M) rfl hl.1 rfl (Nat.le_of_ble_eq_true rfl) ⟨Nat.zero_le _, Nat.zero_le _⟩ dX3_send_114 (fun H locs G => ?_)
                      refine lv_if_eq (tgt := 122) hx hb dX3_send_117 (by decide) (fun c_117 => ?_) (fun c_117 => ?_)
                      · skip
                        have hcW : (xu (mRoomV (xu V 17 20 0) n p0 cnt) 17 20 0) 17 17 = nI cnt := (congrFun (mRoomV_o (xu V 17 20 0) n p0 cnt (i := 17) (by decide) (by decide)) 17).trans hcnt
                        refine lv_aload_n hx hb dX3_send_122 rfl (lv_at hl 1 rfl) ?_
                        refine m_getA B G M hin 0 (by decide) (by decide +kernel) dX3_send_123 ?_
                        refine lv_aload_n hx hb dX3_send_126 rfl (lv_at hl 1 rfl) ?_
                        refine m_getI B G M hin 17 (by decide) (by decide +kernel) dX3_send_127 ?_
                        refine x_top (show _ = nI cnt from hcW) ?_
                        refine lv_iload_n hx hb dX3_send_130 rfl (lv_at hl 3 rfl) ?_
                        refine m_ast B G M 0 (by decide) cnt (show cnt < 40 by omega) rfl dX3_send_131 (fun H locs G => ?_)
                        refine lv_aload_n hx hb dX3_send_132 rfl (lv_at hl 1 rfl) ?_
                        refine m_getA B G M hin 1 (by decide) (by decide +kernel) dX3_send_133 ?_
                        refine lv_aload_n hx hb dX3_send_136 rfl (lv_at hl 1 rfl) ?_
                        refine m_getI B G M hin 17 (by decide) (by decide +kernel) dX3_send_137 ?_
                        refine x_top (show _ = nI cnt from hcW) ?_
                        refine lv_iload_n hx hb dX3_send_140 rfl (lv_at hl 4 rfl) ?_
                        refine m_ast B G M 1 (by decide) cnt (show cnt < 40 by omega) rfl dX3_send_141 (fun H locs G => ?_)
                        refine lv_aload_n hx hb dX3_send_142 rfl (lv_at hl 1 rfl) ?_
                        refine m_getA B G M hin 2 (by decide) (by decide +kernel) dX3_send_143 ?_
                        refine lv_aload_n hx hb dX3_send_146 rfl (lv_at hl 1 rfl) ?_
                        refine m_getI B G M hin 17 (by decide) (by decide +kernel) dX3_send_147 ?_
                        refine x_top (show _ = nI cnt from hcW) ?_
                        refine lv_aload_n hx hb dX3_send_150 rfl (lv_at hl 1 rfl) ?_
                        refine m_getI B G M hin 19 (by decide) (by decide +kernel) dX3_send_151 ?_
                        refine lv_iload hx hb dX3_send_154 (lv_at hl 6 rfl) ?_
                        refine lv_iadd hx hb dX3_send_156 ?_
                        refine m_ast B G M 2 (by decide) cnt (show cnt < 40 by omega) rfl dX3_send_157 (fun H locs G => ?_)
                        refine lv_aload_n hx hb dX3_send_158 rfl (lv_at hl 1 rfl) ?_
                        refine m_getA B G M hin 3 (by decide) (by decide +kernel) dX3_send_159 ?_
                        refine lv_aload_n hx hb dX3_send_162 rfl (lv_at hl 1 rfl) ?_
                        refine m_getI B G M hin 17 (by decide) (by decide +kernel) dX3_send_163 ?_
                        refine x_top (show _ = nI cnt from hcW) ?_
                        refine lv_iload_n hx hb dX3_send_166 rfl (lv_at hl 2 rfl) ?_
                        refine m_ast B G M 3 (by decide) cnt (show cnt < 40 by omega) rfl dX3_send_167 (fun H locs G => ?_)
                        refine lv_aload_n hx hb dX3_send_168 rfl (lv_at hl 1 rfl) ?_
                        refine m_getA B G M hin 4 (by decide) (by decide +kernel) dX3_send_169 ?_
                        refine lv_aload_n hx hb dX3_send_172 rfl (lv_at hl 1 rfl) ?_
                        refine m_getI B G M hin 17 (by decide) (by decide +kernel) dX3_send_173 ?_
                        refine x_top (show _ = nI cnt from hcW) ?_
                        refine lv_iconst (v := (-1)) hx hb dX3_send_176 (by decide) ?_
                        refine m_ast B G M 4 (by decide) cnt (show cnt < 40 by omega) rfl dX3_send_177 (fun H locs G => ?_)
                        refine lv_aload_n hx hb dX3_send_178 rfl (lv_at hl 1 rfl) ?_
                        refine m_getA B G M hin 6 (by decide) (by decide +kernel) dX3_send_179 ?_
                        refine lv_bipush (v := 40) hx hb dX3_send_182 (by decide) ?_
                        refine lv_iload_n hx hb dX3_send_184 rfl (lv_at hl 2 rfl) ?_
                        refine lv_imul hx hb dX3_send_185 ?_
                        refine x_top (show 40 * (nI n) = nI (40 * n) from pk_mul 40 n) ?_
                        refine lv_aload_n hx hb dX3_send_186 rfl (lv_at hl 1 rfl) ?_
                        refine m_getI B G M hin 17 (by decide) (by decide +kernel) dX3_send_187 ?_
                        refine x_top (show _ = nI cnt from hcW) ?_
                        refine lv_iadd hx hb dX3_send_190 ?_
                        refine x_top (show (nI (40 * n)) + (nI cnt) = nI ((40 * n) + cnt) from nI_add (40 * n) cnt) ?_
                        refine lv_iload hx hb dX3_send_191 (lv_at hl 5 rfl) ?_
                        refine m_ast B G M 6 (by decide) ((40 * n) + cnt) (show ((40 * n) + cnt) < 320 by omega) rfl dX3_send_193 (fun H locs G => ?_)
                        refine lv_aload_n hx hb dX3_send_194 rfl (lv_at hl 1 rfl) ?_
                        refine lv_dup hx hb dX3_send_195 rfl ?_
                        refine m_getI B G M hin 17 (by decide) (by decide +kernel) dX3_send_196 ?_
                        refine x_top (show _ = nI cnt from hcW) ?_
                        refine lv_iconst (v := 1) hx hb dX3_send_199 (by decide) ?_
                        refine lv_iadd hx hb dX3_send_200 ?_
                        refine x_top (show (nI cnt) + 1 = nI (cnt + 1) from nI_add cnt 1) ?_
                        refine m_putI B G M hin 17 (by decide) (by decide +kernel) dX3_send_201 (fun H locs G => ?_)
                        refine lv_aload_n hx hb dX3_send_204 rfl (lv_at hl 1 rfl) ?_
                        refine m_getI B G M hin 17 (by decide) (by decide +kernel) dX3_send_205 ?_
                        refine x_top (show _ = nI (cnt + 1) from rfl) ?_
                        refine lv_iconst (v := 1) hx hb dX3_send_208 (by decide) ?_
                        refine lv_isub hx hb dX3_send_209 ?_
                        exact x_iret B G (nI_pred cnt) (rfl) dX3_send_210
                      · exact False.elim (c_117 (by decide))
                  · exact False.elim (c_94 (by decide))
                · exact False.elim (absurd ((nI_eq (a := cnt) (b := 40) (by omega) (by omega)).mp c_83) (by omega))
              · exact False.elim (absurd c_70 (by decide))
            · exact False.elim (b2i_0.mp c_61 (hy7))
def mFr (W : xV) (a b k : Nat) : Nat := if W 14 k = nI a then a else b
def mTo (W : xV) (a b k : Nat) : Nat := if W 14 k = nI a then b else a
def mJb (W : xV) (k : Nat) : Nat := (W 13 k).toNatClampNeg
def mSt (W : xV) (a b del k cnt : Nat) : Int32 × xV := if k < del then (1, mDel W (mFr W a b k) (mTo W a b k) (mJb W k)) else (b2i (mSpB W (mFr W a b k) (mTo W a b k) (mJb W k) cnt = true), mSpV W (mFr W a b k) (mTo W a b k) (mJb W k) cnt)
def mLp (a b del jobs cnt : Nat) (most : Int32) : Nat → Nat → Int32 → xV → Int32 × xV
  | 0, _, made, W => (made, W)
  | f + 1, k, made, W => if jobs ≤ k then (made, W) else if most ≤ made then (made, W) else mLp a b del jobs cnt most f (k + 1) (made + (mSt W a b del k cnt).1) (mSt W a b del k cnt).2
/-- rows that no transfer writes -/
def mKp (i : Nat) : Prop := i = 0 ∨ i = 1 ∨ i = 2 ∨ i = 9 ∨ i = 12 ∨ i = 13 ∨ i = 14 ∨ i = 17
theorem mDel_o (V : xV) (a b k : Nat) {i : Nat} (h : mKp i) : mDel V a b k i = V i := by
  unfold mKp at h
  unfold mDel
  rw [mLearn_o _ _ _ (by omega) (by omega) (by omega), mLearn_o _ _ _ (by omega) (by omega) (by omega), xu_ne _ _ _ (by omega), xu_ne _ _ _ (by omega)]
theorem mSpV_o (V : xV) (a b k cnt : Nat) {i : Nat} (h : mKp i) : mSpV V a b k cnt i = V i := by
  unfold mKp at h
  unfold mSpV
  split
  · rfl
  · split
    · show xu (xu (xu (mRoomV V b (V 1 k) cnt) 6 _ _) 6 _ _) 7 _ _ i = V i
      rw [xu_ne _ _ _ (by omega), xu_ne _ _ _ (by omega), xu_ne _ _ _ (by omega), mRoomV_o _ _ _ _ (by omega) (by omega)]
    · rw [xu_ne _ _ _ (by omega), mRoomV_o _ _ _ _ (by omega) (by omega)]
theorem mSt_o (W : xV) (a b del k cnt : Nat) {i : Nat} (h : mKp i) : (mSt W a b del k cnt).2 i = W i := by
  unfold mSt
  split
  · exact mDel_o _ _ _ _ h
  · exact mSpV_o _ _ _ _ _ h
theorem mLp_o (a b del jobs cnt : Nat) (most : Int32) (f k : Nat) (made : Int32) (W : xV) {i : Nat} (h : mKp i) : (mLp a b del jobs cnt most f k made W).2 i = W i := by
  induction f generalizing k made W with
  | zero => rfl
  | succ f ih =>
    unfold mLp
    split
    · rfl
    · split
      · rfl
      · rw [ih, mSt_o _ _ _ _ _ _ h]
/-- a meeting: the worlds one behind the other -/
def mM0 (V : xV) (a b cnt : Nat) : xV := mTalk V a b cnt
def mR1 (V : xV) (a b cnt : Nat) : Nat × (Nat → Int32) × (Nat → Int32) := mGa (mM0 V a b cnt) (mWD (mM0 V a b cnt)) a b 0 cnt
def mM1 (V : xV) (a b cnt : Nat) : xV := mJr (mM0 V a b cnt) (mR1 V a b cnt).2.1 (mR1 V a b cnt).2.2
def mR2 (V : xV) (a b cnt : Nat) : Nat × (Nat → Int32) × (Nat → Int32) := mGa (mM1 V a b cnt) (mWS (mM1 V a b cnt)) a b (mR1 V a b cnt).1 cnt
def mM2 (V : xV) (a b cnt : Nat) : xV := mJr (mM1 V a b cnt) (mR2 V a b cnt).2.1 (mR2 V a b cnt).2.2
def mM3 (V : xV) (a b cnt : Nat) (most : Int32) : Int32 × xV := mLp a b (mR1 V a b cnt).1 (mR2 V a b cnt).1 cnt most ((mR2 V a b cnt).1 + 1) 0 0 (mM2 V a b cnt)
theorem mM2_o (V : xV) (a b cnt : Nat) {i : Nat} (h3 : i ≠ 3) (h6 : i ≠ 6) (h8 : i ≠ 8) (h13 : i ≠ 13) (h14 : i ≠ 14) : mM2 V a b cnt i = V i := by
  unfold mM2 mM1 mM0
  rw [mJr_o _ _ _ h13 h14, mJr_o _ _ _ h13 h14, mTalk_o _ _ _ _ h3 h6 h8]
theorem mR2_ok (V : xV) (a b cnt : Nat) (hc : cnt ≤ 40) : jOk a b 0 (mR2 V a b cnt) := by
  refine jOk_ga cnt hc (Nat.zero_le _) ?_
  show jOk a b 0 (mR1 V a b cnt)
  exact jOk_ga cnt hc (Nat.le_refl 0) (fun j h1 h2 => absurd h2 (Nat.not_lt_zero j))
theorem mR_n (V : xV) (a b cnt : Nat) : (mR1 V a b cnt).1 ≤ cnt ∧ (mR1 V a b cnt).1 ≤ (mR2 V a b cnt).1 ∧ (mR2 V a b cnt).1 ≤ (mR1 V a b cnt).1 + cnt := by
  have h1 : 0 ≤ (mR1 V a b cnt).1 ∧ (mR1 V a b cnt).1 ≤ 0 + cnt := mGa_n (mM0 V a b cnt) (mWD (mM0 V a b cnt)) a b 0 cnt
  have h2 : (mR1 V a b cnt).1 ≤ (mR2 V a b cnt).1 ∧ (mR2 V a b cnt).1 ≤ (mR1 V a b cnt).1 + cnt := mGa_n (mM1 V a b cnt) (mWS (mM1 V a b cnt)) a b (mR1 V a b cnt).1 cnt
  omega
set_option maxHeartbeats 4000000 in
set_option maxRecDepth 100000 in
theorem c_X3_meet_bad1 (l : Launch) {D : va_G} {sh : xS} {ad : Nat → Nat} {cI : ClassId} {tys : List (ClassId × FieldType)} (M : xMm sh ad cI tys) (V : xV) (x y z : Int32) (h : ¬ ((0 ≤ x ∧ x ≤ 7) ∧ (0 ≤ y ∧ y ≤ 7))) : xMi l yX3_meet wsX3_meet (rmK 4) D sh ad tys V [.ref (ad 17), .int x, .int y, .int z] (-1) (xu V 17 20 1) := by
  refine xOfi (cc := cX3_meet) (nL := 9) (ret := some .int) (own := RX3) (by decide) rfl rfl (Nat.le_of_ble_eq_true rfl) M.2.2 ?_
  intro p e s m args below meth c A ls B G hl
  have hx := B.1.1
  have hb := B.1.2.1
  have hin : ∀ w ∈ wsX30, w ∈ wsX3_meet := by decide +kernel
  have hl : lv_has ls 9 [(0, .ref (ad 17)), (1, .int x), (2, .int y), (3, .int z)] := hl
  refine lv_aload_n hx hb dX3_meet_0 rfl (lv_at hl 0 rfl) ?_
  refine lv_aload_n hx hb dX3_meet_1 rfl (lv_at hl 0 rfl) ?_
  refine lv_iload_n hx hb dX3_meet_2 rfl (lv_at hl 1 rfl) ?_
  refine x_callVi (rest := [.ref (ad 17)]) B G (c_X3_isNode l M V x) (cwV 1 B.1.2.2.2.2 gX3_meet_X3_isNode rfl rfl rfl (by decide +kernel) ⟨Nat.le_of_ble_eq_true rfl, Nat.le_of_ble_eq_true rfl⟩) (m_recv B G M) rfl hl.1 rfl (Nat.le_of_ble_eq_true rfl) ⟨Nat.zero_le _, Nat.zero_le _⟩ dX3_meet_3 (fun H locs G => ?_)
  refine lv_if_eq (tgt := 17) hx hb dX3_meet_6 (by decide) (fun c_6 => ?_) (fun c_6 => ?_)
  · skip
    refine lv_iconst (v := 1) hx hb dX3_meet_17 (by decide) ?_
    refine lv_goto (tgt := 42) hx hb dX3_meet_18 (by decide) ?_
    refine x_callVi (rest := []) B G (c_X3_holds l M V 1) (cwV 1 B.1.2.2.2.2 gX3_meet_X3_holds rfl rfl rfl (by decide +kernel) ⟨Nat.le_of_ble_eq_true rfl, Nat.le_of_ble_eq_true rfl⟩) (m_recv B G M) rfl hl.1 rfl (Nat.le_of_ble_eq_true rfl) ⟨Nat.zero_le _, Nat.zero_le _⟩ dX3_meet_42 (fun H locs G => ?_)
    refine lv_if_eq (tgt := 50) hx hb dX3_meet_45 (by decide) (fun c_45 => ?_) (fun c_45 => ?_)
    · exact False.elim (absurd c_45 (by decide))
    · skip
      refine lv_iconst (v := (-1)) hx hb dX3_meet_48 (by decide) ?_
      exact x_iret B G (rfl) (rfl) dX3_meet_49
  · skip
    refine lv_aload_n hx hb dX3_meet_9 rfl (lv_at hl 0 rfl) ?_
    refine lv_iload_n hx hb dX3_meet_10 rfl (lv_at hl 2 rfl) ?_
    refine x_callVi (rest := [.ref (ad 17)]) B G (c_X3_isNode l M V y) (cwV 1 B.1.2.2.2.2 gX3_meet_X3_isNode rfl rfl rfl (by decide +kernel) ⟨Nat.le_of_ble_eq_true rfl, Nat.le_of_ble_eq_true rfl⟩) (m_recv B G M) rfl hl.1 rfl (Nat.le_of_ble_eq_true rfl) ⟨Nat.zero_le _, Nat.zero_le _⟩ dX3_meet_11 (fun H locs G => ?_)
    refine lv_if_ne (tgt := 21) hx hb dX3_meet_14 (by decide) (fun c_14 => ?_) (fun c_14 => ?_)
    · skip
      exact absurd ⟨b2i_1 c_6, b2i_1 c_14⟩ h
    · skip
      refine lv_iconst (v := 1) hx hb dX3_meet_17 (by decide) ?_
      refine lv_goto (tgt := 42) hx hb dX3_meet_18 (by decide) ?_
      refine x_callVi (rest := []) B G (c_X3_holds l M V 1) (cwV 1 B.1.2.2.2.2 gX3_meet_X3_holds rfl rfl rfl (by decide +kernel) ⟨Nat.le_of_ble_eq_true rfl, Nat.le_of_ble_eq_true rfl⟩) (m_recv B G M) rfl hl.1 rfl (Nat.le_of_ble_eq_true rfl) ⟨Nat.zero_le _, Nat.zero_le _⟩ dX3_meet_42 (fun H locs G => ?_)
      refine lv_if_eq (tgt := 50) hx hb dX3_meet_45 (by decide) (fun c_45 => ?_) (fun c_45 => ?_)
      · exact False.elim (absurd c_45 (by decide))
      · skip
        refine lv_iconst (v := (-1)) hx hb dX3_meet_48 (by decide) ?_
        exact x_iret B G (rfl) (rfl) dX3_meet_49
set_option maxHeartbeats 4000000 in
set_option maxRecDepth 100000 in
theorem c_X3_meet_bad2 (l : Launch) {D : va_G} {sh : xS} {ad : Nat → Nat} {cI : ClassId} {tys : List (ClassId × FieldType)} (M : xMm sh ad cI tys) (V : xV) (x y z : Int32) (hx7 : 0 ≤ x ∧ x ≤ 7) (hy7 : 0 ≤ y ∧ y ≤ 7) (h : ¬ (x ≠ y ∧ (0 ≤ z ∧ z ≤ 20))) : xMi l yX3_meet wsX3_meet (rmK 4) D sh ad tys V [.ref (ad 17), .int x, .int y, .int z] (-1) (xu V 17 20 2) := by
  refine xOfi (cc := cX3_meet) (nL := 9) (ret := some .int) (own := RX3) (by decide) rfl rfl (Nat.le_of_ble_eq_true rfl) M.2.2 ?_
  intro p e s m args below meth c A ls B G hl
  have hx := B.1.1
  have hb := B.1.2.1
  have hin : ∀ w ∈ wsX30, w ∈ wsX3_meet := by decide +kernel
  have hl : lv_has ls 9 [(0, .ref (ad 17)), (1, .int x), (2, .int y), (3, .int z)] := hl
  refine lv_aload_n hx hb dX3_meet_0 rfl (lv_at hl 0 rfl) ?_
  refine lv_aload_n hx hb dX3_meet_1 rfl (lv_at hl 0 rfl) ?_
  refine lv_iload_n hx hb dX3_meet_2 rfl (lv_at hl 1 rfl) ?_
  refine x_callVi (rest := [.ref (ad 17)]) B G (c_X3_isNode l M V x) (cwV 1 B.1.2.2.2.2 gX3_meet_X3_isNode rfl rfl rfl (by decide +kernel) ⟨Nat.le_of_ble_eq_true rfl, Nat.le_of_ble_eq_true rfl⟩) (m_recv B G M) rfl hl.1 rfl (Nat.le_of_ble_eq_true rfl) ⟨Nat.zero_le _, Nat.zero_le _⟩ dX3_meet_3 (fun H locs G => ?_)
  refine lv_if_eq (tgt := 17) hx hb dX3_meet_6 (by decide) (fun c_6 => ?_) (fun c_6 => ?_)
  · exact False.elim (b2i_0.mp c_6 (hx7))
  · skip
    refine lv_aload_n hx hb dX3_meet_9 rfl (lv_at hl 0 rfl) ?_
    refine lv_iload_n hx hb dX3_meet_10 rfl (lv_at hl 2 rfl) ?_
    refine x_callVi (rest := [.ref (ad 17)]) B G (c_X3_isNode l M V y) (cwV 1 B.1.2.2.2.2 gX3_meet_X3_isNode rfl rfl rfl (by decide +kernel) ⟨Nat.le_of_ble_eq_true rfl, Nat.le_of_ble_eq_true rfl⟩) (m_recv B G M) rfl hl.1 rfl (Nat.le_of_ble_eq_true rfl) ⟨Nat.zero_le _, Nat.zero_le _⟩ dX3_meet_11 (fun H locs G => ?_)
    refine lv_if_ne (tgt := 21) hx hb dX3_meet_14 (by decide) (fun c_14 => ?_) (fun c_14 => ?_)
    · skip
      refine lv_iload_n hx hb dX3_meet_21 rfl (lv_at hl 1 rfl) ?_
      refine lv_iload_n hx hb dX3_meet_22 rfl (lv_at hl 2 rfl) ?_
      refine lv_icmp_eq (tgt := 37) hx hb dX3_meet_23 (by decide) (fun c_23 => ?_) (fun c_23 => ?_)
      · skip
        refine lv_iconst (v := 2) hx hb dX3_meet_37 (by decide) ?_
        refine lv_goto (tgt := 42) hx hb dX3_meet_38 (by decide) ?_
        refine x_callVi (rest := []) B G (c_X3_holds l M V 2) (cwV 1 B.1.2.2.2.2 gX3_meet_X3_holds rfl rfl rfl (by decide +kernel) ⟨Nat.le_of_ble_eq_true rfl, Nat.le_of_ble_eq_true rfl⟩) (m_recv B G M) rfl hl.1 rfl (Nat.le_of_ble_eq_true rfl) ⟨Nat.zero_le _, Nat.zero_le _⟩ dX3_meet_42 (fun H locs G => ?_)
        refine lv_if_eq (tgt := 50) hx hb dX3_meet_45 (by decide) (fun c_45 => ?_) (fun c_45 => ?_)
        · exact False.elim (absurd c_45 (by decide))
        · skip
          refine lv_iconst (v := (-1)) hx hb dX3_meet_48 (by decide) ?_
          exact x_iret B G (rfl) (rfl) dX3_meet_49
      · skip
        refine lv_aload_n hx hb dX3_meet_26 rfl (lv_at hl 0 rfl) ?_
        refine lv_iload_n hx hb dX3_meet_27 rfl (lv_at hl 3 rfl) ?_
        refine lv_iconst (v := 0) hx hb dX3_meet_28 (by decide) ?_
        refine lv_bipush (v := 20) hx hb dX3_meet_29 (by decide) ?_
        refine x_callVi (rest := [.ref (ad 17)]) B G (c_X3_between l M V z 0 20) (cwV 3 B.1.2.2.2.2 gX3_meet_X3_between rfl rfl rfl (by decide +kernel) ⟨Nat.le_of_ble_eq_true rfl, Nat.le_of_ble_eq_true rfl⟩) (m_recv B G M) rfl hl.1 rfl (Nat.le_of_ble_eq_true rfl) ⟨Nat.zero_le _, Nat.zero_le _⟩ dX3_meet_31 (fun H locs G => ?_)
        refine lv_if_ne (tgt := 41) hx hb dX3_meet_34 (by decide) (fun c_34 => ?_) (fun c_34 => ?_)
        · skip
          exact absurd ⟨c_23, b2i_1 c_34⟩ h
        · skip
          refine lv_iconst (v := 2) hx hb dX3_meet_37 (by decide) ?_
          refine lv_goto (tgt := 42) hx hb dX3_meet_38 (by decide) ?_
          refine x_callVi (rest := []) B G (c_X3_holds l M V 2) (cwV 1 B.1.2.2.2.2 gX3_meet_X3_holds rfl rfl rfl (by decide +kernel) ⟨Nat.le_of_ble_eq_true rfl, Nat.le_of_ble_eq_true rfl⟩) (m_recv B G M) rfl hl.1 rfl (Nat.le_of_ble_eq_true rfl) ⟨Nat.zero_le _, Nat.zero_le _⟩ dX3_meet_42 (fun H locs G => ?_)
          refine lv_if_eq (tgt := 50) hx hb dX3_meet_45 (by decide) (fun c_45 => ?_) (fun c_45 => ?_)
          · exact False.elim (absurd c_45 (by decide))
          · skip
            refine lv_iconst (v := (-1)) hx hb dX3_meet_48 (by decide) ?_
            exact x_iret B G (rfl) (rfl) dX3_meet_49
    · exact False.elim (b2i_0.mp c_14 (hy7))
set_option maxHeartbeats 4000000 in
set_option maxRecDepth 100000 in
theorem c_X3_meet_ok (l : Launch) {D : va_G} {sh : xS} {ad : Nat → Nat} {cI : ClassId} {tys : List (ClassId × FieldType)} (M : xMm sh ad cI tys) (V : xV) (a b nc cnt : Nat) (most : Int32) (ha : a < 8) (hb8 : b < 8) (hab : a ≠ b) (hm : 0 ≤ most ∧ most ≤ 20) (hcnt : V 17 17 = nI cnt) (hc40 : cnt ≤ 40) (hnc : V 17 18 = nI nc) (hc30 : nc ≤ 30) (hpl : mPl V nc) (hg : ∀ k, k < cnt → V 0 k = nI (V 0 k).toNatClampNeg ∧ (V 0 k).toNatClampNeg < 8) : xMi l yX3_meet wsX3_meet (rmK 4) D sh ad tys V [.ref (ad 17), .int (nI a), .int (nI b), .int most] ((mM3 (xu V 17 20 0) a b cnt most).1) (mEnt (mM3 (xu V 17 20 0) a b cnt most).2 a b nc cnt) := by
  refine xOfi (cc := cX3_meet) (nL := 9) (ret := some .int) (own := RX3) (by decide) rfl rfl (Nat.le_of_ble_eq_true rfl) M.2.2 ?_
  intro p e s m args below meth c A ls B G hl
  have hx := B.1.1
  have hb := B.1.2.1
  have hin : ∀ w ∈ wsX30, w ∈ wsX3_meet := by decide +kernel
  have hl : lv_has ls 9 [(0, .ref (ad 17)), (1, .int (nI a)), (2, .int (nI b)), (3, .int most)] := hl
  refine lv_aload_n hx hb dX3_meet_0 rfl (lv_at hl 0 rfl) ?_
  refine lv_aload_n hx hb dX3_meet_1 rfl (lv_at hl 0 rfl) ?_
  refine lv_iload_n hx hb dX3_meet_2 rfl (lv_at hl 1 rfl) ?_
  refine x_callVi (rest := [.ref (ad 17)]) B G (c_X3_isNode l M V (nI a)) (cwV 1 B.1.2.2.2.2 gX3_meet_X3_isNode rfl rfl rfl (by decide +kernel) ⟨Nat.le_of_ble_eq_true rfl, Nat.le_of_ble_eq_true rfl⟩) (m_recv B G M) rfl hl.1 rfl (Nat.le_of_ble_eq_true rfl) ⟨Nat.zero_le _, Nat.zero_le _⟩ dX3_meet_3 (fun H locs G => ?_)
  refine lv_if_eq (tgt := 17) hx hb dX3_meet_6 (by decide) (fun c_6 => ?_) (fun c_6 => ?_)
  · exact False.elim (b2i_0.mp c_6 (nodeOK ha))
  · skip
    refine lv_aload_n hx hb dX3_meet_9 rfl (lv_at hl 0 rfl) ?_
    refine lv_iload_n hx hb dX3_meet_10 rfl (lv_at hl 2 rfl) ?_
    refine x_callVi (rest := [.ref (ad 17)]) B G (c_X3_isNode l M V (nI b)) (cwV 1 B.1.2.2.2.2 gX3_meet_X3_isNode rfl rfl rfl (by decide +kernel) ⟨Nat.le_of_ble_eq_true rfl, Nat.le_of_ble_eq_true rfl⟩) (m_recv B G M) rfl hl.1 rfl (Nat.le_of_ble_eq_true rfl) ⟨Nat.zero_le _, Nat.zero_le _⟩ dX3_meet_11 (fun H locs G => ?_)
    refine lv_if_ne (tgt := 21) hx hb dX3_meet_14 (by decide) (fun c_14 => ?_) (fun c_14 => ?_)
    · skip
      refine lv_iload_n hx hb dX3_meet_21 rfl (lv_at hl 1 rfl) ?_
      refine lv_iload_n hx hb dX3_meet_22 rfl (lv_at hl 2 rfl) ?_
      refine lv_icmp_eq (tgt := 37) hx hb dX3_meet_23 (by decide) (fun c_23 => ?_) (fun c_23 => ?_)
      · exact False.elim (hab ((nI_eq (by omega) (by omega)).mp c_23))
      · skip
        have c_23 : ¬ (a = b) := fun h9 => c_23 ((nI_eq (a := a) (b := b) (by omega) (by omega)).mpr h9)
        refine lv_aload_n hx hb dX3_meet_26 rfl (lv_at hl 0 rfl) ?_
        refine lv_iload_n hx hb dX3_meet_27 rfl (lv_at hl 3 rfl) ?_
        refine lv_iconst (v := 0) hx hb dX3_meet_28 (by decide) ?_
        refine lv_bipush (v := 20) hx hb dX3_meet_29 (by decide) ?_
        refine x_callVi (rest := [.ref (ad 17)]) B G (c_X3_between l M V most 0 20) (cwV 3 B.1.2.2.2.2 gX3_meet_X3_between rfl rfl rfl (by decide +kernel) ⟨Nat.le_of_ble_eq_true rfl, Nat.le_of_ble_eq_true rfl⟩) (m_recv B G M) rfl hl.1 rfl (Nat.le_of_ble_eq_true rfl) ⟨Nat.zero_le _, Nat.zero_le _⟩ dX3_meet_31 (fun H locs G => ?_)
        refine lv_if_ne (tgt := 41) hx hb dX3_meet_34 (by decide) (fun c_34 => ?_) (fun c_34 => ?_)
        · skip
          refine lv_iconst (v := 0) hx hb dX3_meet_41 (by decide) ?_
          refine x_callVi (rest := []) B G (c_X3_holds l M V 0) (cwV 1 B.1.2.2.2.2 gX3_meet_X3_holds rfl rfl rfl (by decide +kernel) ⟨Nat.le_of_ble_eq_true rfl, Nat.le_of_ble_eq_true rfl⟩) (m_recv B G M) rfl hl.1 rfl (Nat.le_of_ble_eq_true rfl) ⟨Nat.zero_le _, Nat.zero_le _⟩ dX3_meet_42 (fun H locs G => ?_)
          refine lv_if_eq (tgt := 50) hx hb dX3_meet_45 (by decide) (fun c_45 => ?_) (fun c_45 => ?_)
          · skip
            refine lv_aload_n hx hb dX3_meet_50 rfl (lv_at hl 0 rfl) ?_
            refine lv_iload_n hx hb dX3_meet_51 rfl (lv_at hl 1 rfl) ?_
            refine lv_iload_n hx hb dX3_meet_52 rfl (lv_at hl 2 rfl) ?_
            refine x_callVv (rest := []) B G (c_X3_talk l M (xu V 17 20 0) a b cnt ha hb8 hcnt hc40) (cwV 2 B.1.2.2.2.2 gX3_meet_X3_talk rfl rfl rfl (by decide +kernel) ⟨Nat.le_of_ble_eq_true rfl, Nat.le_of_ble_eq_true rfl⟩) (m_recv B G M) rfl hl.1 rfl (Nat.le_of_ble_eq_true rfl) ⟨Nat.zero_le _, Nat.zero_le _⟩ dX3_meet_53 (fun H locs G => ?_)
            refine lv_aload_n hx hb dX3_meet_56 rfl (lv_at hl 0 rfl) ?_
            refine lv_iload_n hx hb dX3_meet_57 rfl (lv_at hl 1 rfl) ?_
            refine lv_iload_n hx hb dX3_meet_58 rfl (lv_at hl 2 rfl) ?_
            refine lv_iconst (v := 1) hx hb dX3_meet_59 (by decide) ?_
            refine lv_iconst (v := 0) hx hb dX3_meet_60 (by decide) ?_
            refine x_callVi (rest := []) B G (c_X3_gatherD l M (mM0 (xu V 17 20 0) a b cnt) a b 0 cnt ha hb8 (by omega) ((congrFun (mTalk_o (xu V 17 20 0) a b cnt (i := 17) (by decide) (by decide) (by decide)) 17).trans hcnt) hc40) (cwV 4 B.1.2.2.2.2 gX3_meet_X3_gather rfl rfl rfl (by decide +kernel) ⟨Nat.le_of_ble_eq_true rfl, Nat.le_of_ble_eq_true rfl⟩) (m_recv B G M) rfl hl.1 rfl (Nat.le_of_ble_eq_true rfl) ⟨Nat.zero_le _, Nat.zero_le _⟩ dX3_meet_61 (fun H locs G => ?_)
            refine lv_istore (lv' := [(4, .int (nI ((mR1 (xu V 17 20 0) a b cnt).1))), (0, .ref (ad 17)), (1, .int (nI a)), (2, .int (nI b)), (3, .int most)]) hx hb dX3_meet_64 hl (by decide) rfl (fun ls hl => ?_)
            refine lv_aload_n hx hb dX3_meet_66 rfl (lv_at hl 1 rfl) ?_
            refine lv_iload_n hx hb dX3_meet_67 rfl (lv_at hl 2 rfl) ?_
            refine lv_iload_n hx hb dX3_meet_68 rfl (lv_at hl 3 rfl) ?_
            refine lv_iconst (v := 0) hx hb dX3_meet_69 (by decide) ?_
            refine lv_iload hx hb dX3_meet_70 (lv_at hl 0 rfl) ?_
            refine x_callVi (rest := []) B G (c_X3_gatherS l M (mM1 (xu V 17 20 0) a b cnt) a b (mR1 (xu V 17 20 0) a b cnt).1 cnt ha hb8 (by have z := mR_n (xu V 17 20 0) a b cnt; omega) ((congrFun (mJr_o (mM0 (xu V 17 20 0) a b cnt) _ _ (i := 17) (by decide) (by decide)) 17).trans ((congrFun (mTalk_o (xu V 17 20 0) a b cnt (i := 17) (by decide) (by decide) (by decide)) 17).trans hcnt)) hc40) (cwV 4 B.1.2.2.2.2 gX3_meet_X3_gather rfl rfl rfl (by decide +kernel) ⟨Nat.le_of_ble_eq_true rfl, Nat.le_of_ble_eq_true rfl⟩) (m_recv B G M) rfl hl.1 rfl (Nat.le_of_ble_eq_true rfl) ⟨Nat.zero_le _, Nat.zero_le _⟩ dX3_meet_72 (fun H locs G => ?_)
            refine lv_istore (lv' := [(5, .int (nI ((mR2 (xu V 17 20 0) a b cnt).1))), (4, .int (nI ((mR1 (xu V 17 20 0) a b cnt).1))), (0, .ref (ad 17)), (1, .int (nI a)), (2, .int (nI b)), (3, .int most)]) hx hb dX3_meet_75 hl (by decide) rfl (fun ls hl => ?_)
            have hc2 : (mM2 (xu V 17 20 0) a b cnt) 17 17 = nI cnt := (congrFun (mM2_o (xu V 17 20 0) a b cnt (i := 17) (by decide) (by decide) (by decide) (by decide) (by decide)) 17).trans hcnt
            refine lv_iconst (v := 0) hx hb dX3_meet_77 (by decide) ?_
            refine lv_istore (lv' := [(6, .int 0), (5, .int (nI ((mR2 (xu V 17 20 0) a b cnt).1))), (4, .int (nI ((mR1 (xu V 17 20 0) a b cnt).1))), (0, .ref (ad 17)), (1, .int (nI a)), (2, .int (nI b)), (3, .int most)]) hx hb dX3_meet_78 hl (by decide) rfl (fun ls hl => ?_)
            refine lv_iconst (v := 0) hx hb dX3_meet_80 (by decide) ?_
            refine lv_istore (lv' := [(7, .int 0), (6, .int 0), (5, .int (nI ((mR2 (xu V 17 20 0) a b cnt).1))), (4, .int (nI ((mR1 (xu V 17 20 0) a b cnt).1))), (0, .ref (ad 17)), (1, .int (nI a)), (2, .int (nI b)), (3, .int most)]) hx hb dX3_meet_81 hl (by decide) rfl (fun ls hl => ?_)
            have hjo := mR2_ok (xu V 17 20 0) a b cnt hc40
            have hrn := mR_n (xu V 17 20 0) a b cnt
            have main : ∀ (f k : Nat) (made : Int32) (W0 : xV), k ≤ (mR2 (xu V 17 20 0) a b cnt).1 → (mR2 (xu V 17 20 0) a b cnt).1 < k + f → (∀ i, mKp i → W0 i = (mM2 (xu V 17 20 0) a b cnt) i) → mLp a b (mR1 (xu V 17 20 0) a b cnt).1 (mR2 (xu V 17 20 0) a b cnt).1 cnt most f k made W0 = (mM3 (xu V 17 20 0) a b cnt most) → ∀ (H : Heap) (locs : List Loc) (ls : Array Slot), xG D sh ad A s.heap W0 H locs → lv_has ls 9 [(0, .ref (ad 17)), (1, .int (nI a)), (2, .int (nI b)), (3, .int most), (4, .int (nI ((mR1 (xu V 17 20 0) a b cnt).1))), (5, .int (nI ((mR2 (xu V 17 20 0) a b cnt).1))), (6, .int made), (7, .int (nI k))] → W p l e (rmK 4) s m args below meth c H locs 0 0 (xQi below D sh ad tys A args s ((mM3 (xu V 17 20 0) a b cnt most).1) (mEnt (mM3 (xu V 17 20 0) a b cnt most).2 a b nc cnt)) (F0 m 83 ls []) := by
              intro f
              induction f with
              | zero => intro k made W0 h1 h2; exact absurd h2 (by omega)
              | succ f ih_83 =>
                intro k made W0 hk hf hW hL H locs ls G hl
                refine lv_iload hx hb dX3_meet_83 (lv_at hl 7 rfl) ?_
                refine lv_iload hx hb dX3_meet_85 (lv_at hl 5 rfl) ?_
                refine lv_icmp_ge (tgt := 175) hx hb dX3_meet_87 (by decide) (fun c_87 => ?_) (fun c_87 => ?_)
                · skip
                  have c_87 : ((mR2 (xu V 17 20 0) a b cnt).1) ≤ k := (nI_leI (a := ((mR2 (xu V 17 20 0) a b cnt).1)) (b := k) (by omega) (by omega)).mp c_87
                  have eL : (made, W0) = (mM3 (xu V 17 20 0) a b cnt most) := by rw [← hL]; exact (if_pos c_87).symm
                  have w17 : W0 17 = xu V 17 20 0 17 := (hW 17 (by unfold mKp; omega)).trans (mM2_o _ _ _ _ (by decide) (by decide) (by decide) (by decide) (by decide))
                  have w12 : W0 12 = V 12 := (hW 12 (by unfold mKp; omega)).trans (mM2_o _ _ _ _ (by decide) (by decide) (by decide) (by decide) (by decide))
                  have w0 : W0 0 = V 0 := (hW 0 (by unfold mKp; omega)).trans (mM2_o _ _ _ _ (by decide) (by decide) (by decide) (by decide) (by decide))
                  refine lv_aload_n hx hb dX3_meet_175 rfl (lv_at hl 0 rfl) ?_
                  refine lv_iload_n hx hb dX3_meet_176 rfl (lv_at hl 1 rfl) ?_
                  refine lv_iload_n hx hb dX3_meet_177 rfl (lv_at hl 2 rfl) ?_
                  refine x_callVv (rest := []) B G (c_X3_entrust l M W0 a b nc cnt ha hb8 hab ((congrFun w17 17).trans hcnt) hc40 ((congrFun w17 18).trans hnc) hc30 (hpl.eq w12) (fun k hk => by rw [w0]; exact hg k hk)) (cwV 2 B.1.2.2.2.2 gX3_meet_X3_entrust rfl rfl rfl (by decide +kernel) ⟨Nat.le_of_ble_eq_true rfl, Nat.le_of_ble_eq_true rfl⟩) (m_recv B G M) rfl hl.1 rfl (Nat.le_of_ble_eq_true rfl) ⟨Nat.zero_le _, Nat.zero_le _⟩ dX3_meet_178 (fun H locs G => ?_)
                  refine lv_iload hx hb dX3_meet_181 (lv_at hl 6 rfl) ?_
                  exact x_iret B G (by rw [← eL]) (by rw [← eL]) dX3_meet_183
                · skip
                  have c_87 : ¬ (((mR2 (xu V 17 20 0) a b cnt).1) ≤ k) := fun h9 => c_87 ((nI_leI (a := ((mR2 (xu V 17 20 0) a b cnt).1)) (b := k) (by omega) (by omega)).mpr h9)
                  refine lv_iload hx hb dX3_meet_90 (lv_at hl 6 rfl) ?_
                  refine lv_iload_n hx hb dX3_meet_92 rfl (lv_at hl 3 rfl) ?_
                  refine lv_icmp_ge (tgt := 175) hx hb dX3_meet_93 (by decide) (fun c_93 => ?_) (fun c_93 => ?_)
                  · skip
                    have eL : (made, W0) = (mM3 (xu V 17 20 0) a b cnt most) := by rw [← hL]; exact ((if_neg c_87).trans (if_pos c_93)).symm
                    have w17 : W0 17 = xu V 17 20 0 17 := (hW 17 (by unfold mKp; omega)).trans (mM2_o _ _ _ _ (by decide) (by decide) (by decide) (by decide) (by decide))
                    have w12 : W0 12 = V 12 := (hW 12 (by unfold mKp; omega)).trans (mM2_o _ _ _ _ (by decide) (by decide) (by decide) (by decide) (by decide))
                    have w0 : W0 0 = V 0 := (hW 0 (by unfold mKp; omega)).trans (mM2_o _ _ _ _ (by decide) (by decide) (by decide) (by decide) (by decide))
                    refine lv_aload_n hx hb dX3_meet_175 rfl (lv_at hl 0 rfl) ?_
                    refine lv_iload_n hx hb dX3_meet_176 rfl (lv_at hl 1 rfl) ?_
                    refine lv_iload_n hx hb dX3_meet_177 rfl (lv_at hl 2 rfl) ?_
                    refine x_callVv (rest := []) B G (c_X3_entrust l M W0 a b nc cnt ha hb8 hab ((congrFun w17 17).trans hcnt) hc40 ((congrFun w17 18).trans hnc) hc30 (hpl.eq w12) (fun k hk => by rw [w0]; exact hg k hk)) (cwV 2 B.1.2.2.2.2 gX3_meet_X3_entrust rfl rfl rfl (by decide +kernel) ⟨Nat.le_of_ble_eq_true rfl, Nat.le_of_ble_eq_true rfl⟩) (m_recv B G M) rfl hl.1 rfl (Nat.le_of_ble_eq_true rfl) ⟨Nat.zero_le _, Nat.zero_le _⟩ dX3_meet_178 (fun H locs G => ?_)
                    refine lv_iload hx hb dX3_meet_181 (lv_at hl 6 rfl) ?_
                    exact x_iret B G (by rw [← eL]) (by rw [← eL]) dX3_meet_183
                  · skip
                    have hj := hjo k (Nat.zero_le _) (by omega)
                    have e13 : W0 13 k = nI (mJb W0 k) := by unfold mJb; rw [hW 13 (by unfold mKp; omega)]; exact hj.1.1
                    have l13 : mJb W0 k < 40 := by unfold mJb; rw [hW 13 (by unfold mKp; omega)]; exact hj.1.2
                    have e14 : W0 14 k = nI a ∨ W0 14 k = nI b := by rw [hW 14 (by unfold mKp; omega)]; exact hj.2
                    refine lv_aload_n hx hb dX3_meet_96 rfl (lv_at hl 0 rfl) ?_
                    refine m_getA B G M hin 14 (by decide) (by decide +kernel) dX3_meet_97 ?_
                    refine lv_iload hx hb dX3_meet_100 (lv_at hl 7 rfl) ?_
                    refine m_ald B G M 14 (by decide) k (show k < 80 by omega) rfl dX3_meet_102 ?_
                    refine lv_iload_n hx hb dX3_meet_103 rfl (lv_at hl 1 rfl) ?_
                    refine lv_icmp_ne (tgt := 111) hx hb dX3_meet_104 (by decide) (fun c_104 => ?_) (fun c_104 => ?_)
                    · skip
                      refine lv_iload_n hx hb dX3_meet_111 rfl (lv_at hl 1 rfl) ?_
                      have e_f : mFr W0 a b k = b := if_neg c_104
                      have e_t : mTo W0 a b k = a := if_neg c_104
                      refine lv_istore (lv' := [(8, .int (nI a)), (0, .ref (ad 17)), (1, .int (nI a)), (2, .int (nI b)), (3, .int most), (4, .int (nI ((mR1 (xu V 17 20 0) a b cnt).1))), (5, .int (nI ((mR2 (xu V 17 20 0) a b cnt).1))), (6, .int made), (7, .int (nI k))]) hx hb dX3_meet_112 hl (by decide) rfl (fun ls hl => ?_)
                      refine lv_iload hx hb dX3_meet_114 (lv_at hl 7 rfl) ?_
                      refine lv_iload hx hb dX3_meet_116 (lv_at hl 8 rfl) ?_
                      refine lv_iload hx hb dX3_meet_118 (lv_at hl 5 rfl) ?_
                      refine lv_icmp_ge (tgt := 146) hx hb dX3_meet_120 (by decide) (fun c_120 => ?_) (fun c_120 => ?_)
                      · skip
                        have c_120 : ((mR1 (xu V 17 20 0) a b cnt).1) ≤ k := (nI_leI (a := ((mR1 (xu V 17 20 0) a b cnt).1)) (b := k) (by omega) (by omega)).mp c_120
                        have d_120 : ¬ k < (mR1 (xu V 17 20 0) a b cnt).1 := by omega
                        refine lv_aload_n hx hb dX3_meet_146 rfl (lv_at hl 1 rfl) ?_
                        refine lv_aload_n hx hb dX3_meet_147 rfl (lv_at hl 1 rfl) ?_
                        refine m_getA B G M hin 14 (by decide) (by decide +kernel) dX3_meet_148 ?_
                        refine lv_iload hx hb dX3_meet_151 (lv_at hl 8 rfl) ?_
                        refine m_ald B G M 14 (by decide) k (show k < 80 by omega) rfl dX3_meet_153 ?_
                        refine x_top (show _ = nI b from (e14.resolve_left c_104)) ?_
                        refine lv_iload hx hb dX3_meet_154 (lv_at hl 0 rfl) ?_
                        refine lv_aload_n hx hb dX3_meet_156 rfl (lv_at hl 1 rfl) ?_
                        refine m_getA B G M hin 13 (by decide) (by decide +kernel) dX3_meet_157 ?_
                        refine lv_iload hx hb dX3_meet_160 (lv_at hl 8 rfl) ?_
                        refine m_ald B G M 13 (by decide) k (show k < 80 by omega) rfl dX3_meet_162 ?_
                        refine x_top (show _ = nI (mJb W0 k) from e13) ?_
                        refine x_callVi (rest := [.int made]) B G (c_X3_spray l M W0 b a (mJb W0 k) cnt (by omega) (by omega) l13 ((congrFun (hW 17 (by unfold mKp; omega)) 17).trans hc2) hc40) (cwV 3 B.1.2.2.2.2 gX3_meet_X3_spray rfl rfl rfl (by decide +kernel) ⟨Nat.le_of_ble_eq_true rfl, Nat.le_of_ble_eq_true rfl⟩) (m_recv B G M) rfl hl.1 rfl (Nat.le_of_ble_eq_true rfl) ⟨Nat.zero_le _, Nat.zero_le _⟩ dX3_meet_163 (fun H locs G => ?_)
                        refine lv_iadd hx hb dX3_meet_166 ?_
                        refine lv_istore (lv' := [(6, .int (made + (b2i (mSpB W0 b a (mJb W0 k) cnt = true)))), (8, .int (nI a)), (0, .ref (ad 17)), (1, .int (nI a)), (2, .int (nI b)), (3, .int most), (4, .int (nI ((mR1 (xu V 17 20 0) a b cnt).1))), (5, .int (nI ((mR2 (xu V 17 20 0) a b cnt).1))), (7, .int (nI k))]) hx hb dX3_meet_167 hl (by decide) rfl (fun ls hl => ?_)
                        refine lv_iinc (v := nI (k + 1)) (lv' := [(7, .int (nI (k + 1))), (6, .int (made + (b2i (mSpB W0 b a (mJb W0 k) cnt = true)))), (8, .int (nI a)), (0, .ref (ad 17)), (1, .int (nI a)), (2, .int (nI b)), (3, .int most), (4, .int (nI ((mR1 (xu V 17 20 0) a b cnt).1))), (5, .int (nI ((mR2 (xu V 17 20 0) a b cnt).1)))]) hx hb dX3_meet_169 hl (k := 8) rfl (nI_add k 1) (by decide) rfl (fun ls hl => ?_)
                        refine lv_goto (tgt := 83) hx hb dX3_meet_172 (by decide) ?_
                        have e_s : mSt W0 a b (mR1 (xu V 17 20 0) a b cnt).1 k cnt = (b2i (mSpB W0 b a (mJb W0 k) cnt = true), mSpV W0 b a (mJb W0 k) cnt) := by unfold mSt; rw [if_neg d_120, e_f, e_t]
                        have hl := lv_sub (l' := [(0, .ref (ad 17)), (1, .int (nI a)), (2, .int (nI b)), (3, .int most), (4, .int (nI ((mR1 (xu V 17 20 0) a b cnt).1))), (5, .int (nI ((mR2 (xu V 17 20 0) a b cnt).1))), (6, .int (made + (b2i (mSpB W0 b a (mJb W0 k) cnt = true)))), (7, .int (nI (k + 1)))]) hl [3, 4, 5, 6, 7, 8, 1, 0] rfl
                        have hl := lv_cast hl (congrArg (fun z : Int32 => ([(0, .ref (ad 17)), (1, .int (nI a)), (2, .int (nI b)), (3, .int most), (4, .int (nI ((mR1 (xu V 17 20 0) a b cnt).1))), (5, .int (nI ((mR2 (xu V 17 20 0) a b cnt).1))), (6, .int z), (7, .int (nI (k + 1)))] : List (Nat × Value))) (show made + (b2i (mSpB W0 b a (mJb W0 k) cnt = true)) = made + (mSt W0 a b (mR1 (xu V 17 20 0) a b cnt).1 k cnt).1 from (by rw [e_s])))
                        have eV : mSpV W0 b a (mJb W0 k) cnt = (mSt W0 a b (mR1 (xu V 17 20 0) a b cnt).1 k cnt).2 := (by rw [e_s])
                        rw [eV] at G
                        exact ih_83 (k + 1) (made + (mSt W0 a b (mR1 (xu V 17 20 0) a b cnt).1 k cnt).1) (mSt W0 a b (mR1 (xu V 17 20 0) a b cnt).1 k cnt).2 (by omega) (by omega) (fun i hi => (mSt_o _ _ _ _ _ _ hi).trans (hW i hi)) (by rw [← hL]; exact ((if_neg c_87).trans (if_neg c_93)).symm) _ _ _ G hl
                      · skip
                        have c_120 : ¬ (((mR1 (xu V 17 20 0) a b cnt).1) ≤ k) := fun h9 => c_120 ((nI_leI (a := ((mR1 (xu V 17 20 0) a b cnt).1)) (b := k) (by omega) (by omega)).mpr h9)
                        have d_120 : k < (mR1 (xu V 17 20 0) a b cnt).1 := by omega
                        refine lv_aload_n hx hb dX3_meet_123 rfl (lv_at hl 1 rfl) ?_
                        refine lv_aload_n hx hb dX3_meet_124 rfl (lv_at hl 1 rfl) ?_
                        refine m_getA B G M hin 14 (by decide) (by decide +kernel) dX3_meet_125 ?_
                        refine lv_iload hx hb dX3_meet_128 (lv_at hl 8 rfl) ?_
                        refine m_ald B G M 14 (by decide) k (show k < 80 by omega) rfl dX3_meet_130 ?_
                        refine x_top (show _ = nI b from (e14.resolve_left c_104)) ?_
                        refine lv_iload hx hb dX3_meet_131 (lv_at hl 0 rfl) ?_
                        refine lv_aload_n hx hb dX3_meet_133 rfl (lv_at hl 1 rfl) ?_
                        refine m_getA B G M hin 13 (by decide) (by decide +kernel) dX3_meet_134 ?_
                        refine lv_iload hx hb dX3_meet_137 (lv_at hl 8 rfl) ?_
                        refine m_ald B G M 13 (by decide) k (show k < 80 by omega) rfl dX3_meet_139 ?_
                        refine x_top (show _ = nI (mJb W0 k) from e13) ?_
                        refine x_callVi (rest := [.int made]) B G (c_X3_deliver l M W0 b a (mJb W0 k) (by omega) (by omega) l13) (cwV 3 B.1.2.2.2.2 gX3_meet_X3_deliver rfl rfl rfl (by decide +kernel) ⟨Nat.le_of_ble_eq_true rfl, Nat.le_of_ble_eq_true rfl⟩) (m_recv B G M) rfl hl.1 rfl (Nat.le_of_ble_eq_true rfl) ⟨Nat.zero_le _, Nat.zero_le _⟩ dX3_meet_140 (fun H locs G => ?_)
                        refine lv_goto (tgt := 166) hx hb dX3_meet_143 (by decide) ?_
                        refine lv_iadd hx hb dX3_meet_166 ?_
                        refine lv_istore (lv' := [(6, .int (made + 1)), (8, .int (nI a)), (0, .ref (ad 17)), (1, .int (nI a)), (2, .int (nI b)), (3, .int most), (4, .int (nI ((mR1 (xu V 17 20 0) a b cnt).1))), (5, .int (nI ((mR2 (xu V 17 20 0) a b cnt).1))), (7, .int (nI k))]) hx hb dX3_meet_167 hl (by decide) rfl (fun ls hl => ?_)
                        refine lv_iinc (v := nI (k + 1)) (lv' := [(7, .int (nI (k + 1))), (6, .int (made + 1)), (8, .int (nI a)), (0, .ref (ad 17)), (1, .int (nI a)), (2, .int (nI b)), (3, .int most), (4, .int (nI ((mR1 (xu V 17 20 0) a b cnt).1))), (5, .int (nI ((mR2 (xu V 17 20 0) a b cnt).1)))]) hx hb dX3_meet_169 hl (k := 8) rfl (nI_add k 1) (by decide) rfl (fun ls hl => ?_)
                        refine lv_goto (tgt := 83) hx hb dX3_meet_172 (by decide) ?_
                        have e_s : mSt W0 a b (mR1 (xu V 17 20 0) a b cnt).1 k cnt = (1, mDel W0 b a (mJb W0 k)) := by unfold mSt; rw [if_pos d_120, e_f, e_t]
                        have hl := lv_sub (l' := [(0, .ref (ad 17)), (1, .int (nI a)), (2, .int (nI b)), (3, .int most), (4, .int (nI ((mR1 (xu V 17 20 0) a b cnt).1))), (5, .int (nI ((mR2 (xu V 17 20 0) a b cnt).1))), (6, .int (made + 1)), (7, .int (nI (k + 1)))]) hl [3, 4, 5, 6, 7, 8, 1, 0] rfl
                        have hl := lv_cast hl (congrArg (fun z : Int32 => ([(0, .ref (ad 17)), (1, .int (nI a)), (2, .int (nI b)), (3, .int most), (4, .int (nI ((mR1 (xu V 17 20 0) a b cnt).1))), (5, .int (nI ((mR2 (xu V 17 20 0) a b cnt).1))), (6, .int z), (7, .int (nI (k + 1)))] : List (Nat × Value))) (show made + 1 = made + (mSt W0 a b (mR1 (xu V 17 20 0) a b cnt).1 k cnt).1 from (by rw [e_s])))
                        have eV : mDel W0 b a (mJb W0 k) = (mSt W0 a b (mR1 (xu V 17 20 0) a b cnt).1 k cnt).2 := (by rw [e_s])
                        rw [eV] at G
                        exact ih_83 (k + 1) (made + (mSt W0 a b (mR1 (xu V 17 20 0) a b cnt).1 k cnt).1) (mSt W0 a b (mR1 (xu V 17 20 0) a b cnt).1 k cnt).2 (by omega) (by omega) (fun i hi => (mSt_o _ _ _ _ _ _ hi).trans (hW i hi)) (by rw [← hL]; exact ((if_neg c_87).trans (if_neg c_93)).symm) _ _ _ G hl
                    · skip
                      refine lv_iload_n hx hb dX3_meet_107 rfl (lv_at hl 2 rfl) ?_
                      refine lv_goto (tgt := 112) hx hb dX3_meet_108 (by decide) ?_
                      have e_f : mFr W0 a b k = a := if_pos c_104
                      have e_t : mTo W0 a b k = b := if_pos c_104
                      refine lv_istore (lv' := [(8, .int (nI b)), (0, .ref (ad 17)), (1, .int (nI a)), (2, .int (nI b)), (3, .int most), (4, .int (nI ((mR1 (xu V 17 20 0) a b cnt).1))), (5, .int (nI ((mR2 (xu V 17 20 0) a b cnt).1))), (6, .int made), (7, .int (nI k))]) hx hb dX3_meet_112 hl (by decide) rfl (fun ls hl => ?_)
                      refine lv_iload hx hb dX3_meet_114 (lv_at hl 7 rfl) ?_
                      refine lv_iload hx hb dX3_meet_116 (lv_at hl 8 rfl) ?_
                      refine lv_iload hx hb dX3_meet_118 (lv_at hl 5 rfl) ?_
                      refine lv_icmp_ge (tgt := 146) hx hb dX3_meet_120 (by decide) (fun c_120 => ?_) (fun c_120 => ?_)
                      · skip
                        have c_120 : ((mR1 (xu V 17 20 0) a b cnt).1) ≤ k := (nI_leI (a := ((mR1 (xu V 17 20 0) a b cnt).1)) (b := k) (by omega) (by omega)).mp c_120
                        have d_120 : ¬ k < (mR1 (xu V 17 20 0) a b cnt).1 := by omega
                        refine lv_aload_n hx hb dX3_meet_146 rfl (lv_at hl 1 rfl) ?_
                        refine lv_aload_n hx hb dX3_meet_147 rfl (lv_at hl 1 rfl) ?_
                        refine m_getA B G M hin 14 (by decide) (by decide +kernel) dX3_meet_148 ?_
                        refine lv_iload hx hb dX3_meet_151 (lv_at hl 8 rfl) ?_
                        refine m_ald B G M 14 (by decide) k (show k < 80 by omega) rfl dX3_meet_153 ?_
                        refine x_top (show _ = nI a from c_104) ?_
                        refine lv_iload hx hb dX3_meet_154 (lv_at hl 0 rfl) ?_
                        refine lv_aload_n hx hb dX3_meet_156 rfl (lv_at hl 1 rfl) ?_
                        refine m_getA B G M hin 13 (by decide) (by decide +kernel) dX3_meet_157 ?_
                        refine lv_iload hx hb dX3_meet_160 (lv_at hl 8 rfl) ?_
                        refine m_ald B G M 13 (by decide) k (show k < 80 by omega) rfl dX3_meet_162 ?_
                        refine x_top (show _ = nI (mJb W0 k) from e13) ?_
                        refine x_callVi (rest := [.int made]) B G (c_X3_spray l M W0 a b (mJb W0 k) cnt (by omega) (by omega) l13 ((congrFun (hW 17 (by unfold mKp; omega)) 17).trans hc2) hc40) (cwV 3 B.1.2.2.2.2 gX3_meet_X3_spray rfl rfl rfl (by decide +kernel) ⟨Nat.le_of_ble_eq_true rfl, Nat.le_of_ble_eq_true rfl⟩) (m_recv B G M) rfl hl.1 rfl (Nat.le_of_ble_eq_true rfl) ⟨Nat.zero_le _, Nat.zero_le _⟩ dX3_meet_163 (fun H locs G => ?_)
                        refine lv_iadd hx hb dX3_meet_166 ?_
                        refine lv_istore (lv' := [(6, .int (made + (b2i (mSpB W0 a b (mJb W0 k) cnt = true)))), (8, .int (nI b)), (0, .ref (ad 17)), (1, .int (nI a)), (2, .int (nI b)), (3, .int most), (4, .int (nI ((mR1 (xu V 17 20 0) a b cnt).1))), (5, .int (nI ((mR2 (xu V 17 20 0) a b cnt).1))), (7, .int (nI k))]) hx hb dX3_meet_167 hl (by decide) rfl (fun ls hl => ?_)
                        refine lv_iinc (v := nI (k + 1)) (lv' := [(7, .int (nI (k + 1))), (6, .int (made + (b2i (mSpB W0 a b (mJb W0 k) cnt = true)))), (8, .int (nI b)), (0, .ref (ad 17)), (1, .int (nI a)), (2, .int (nI b)), (3, .int most), (4, .int (nI ((mR1 (xu V 17 20 0) a b cnt).1))), (5, .int (nI ((mR2 (xu V 17 20 0) a b cnt).1)))]) hx hb dX3_meet_169 hl (k := 8) rfl (nI_add k 1) (by decide) rfl (fun ls hl => ?_)
                        refine lv_goto (tgt := 83) hx hb dX3_meet_172 (by decide) ?_
                        have e_s : mSt W0 a b (mR1 (xu V 17 20 0) a b cnt).1 k cnt = (b2i (mSpB W0 a b (mJb W0 k) cnt = true), mSpV W0 a b (mJb W0 k) cnt) := by unfold mSt; rw [if_neg d_120, e_f, e_t]
                        have hl := lv_sub (l' := [(0, .ref (ad 17)), (1, .int (nI a)), (2, .int (nI b)), (3, .int most), (4, .int (nI ((mR1 (xu V 17 20 0) a b cnt).1))), (5, .int (nI ((mR2 (xu V 17 20 0) a b cnt).1))), (6, .int (made + (b2i (mSpB W0 a b (mJb W0 k) cnt = true)))), (7, .int (nI (k + 1)))]) hl [3, 4, 5, 6, 7, 8, 1, 0] rfl
                        have hl := lv_cast hl (congrArg (fun z : Int32 => ([(0, .ref (ad 17)), (1, .int (nI a)), (2, .int (nI b)), (3, .int most), (4, .int (nI ((mR1 (xu V 17 20 0) a b cnt).1))), (5, .int (nI ((mR2 (xu V 17 20 0) a b cnt).1))), (6, .int z), (7, .int (nI (k + 1)))] : List (Nat × Value))) (show made + (b2i (mSpB W0 a b (mJb W0 k) cnt = true)) = made + (mSt W0 a b (mR1 (xu V 17 20 0) a b cnt).1 k cnt).1 from (by rw [e_s])))
                        have eV : mSpV W0 a b (mJb W0 k) cnt = (mSt W0 a b (mR1 (xu V 17 20 0) a b cnt).1 k cnt).2 := (by rw [e_s])
                        rw [eV] at G
                        exact ih_83 (k + 1) (made + (mSt W0 a b (mR1 (xu V 17 20 0) a b cnt).1 k cnt).1) (mSt W0 a b (mR1 (xu V 17 20 0) a b cnt).1 k cnt).2 (by omega) (by omega) (fun i hi => (mSt_o _ _ _ _ _ _ hi).trans (hW i hi)) (by rw [← hL]; exact ((if_neg c_87).trans (if_neg c_93)).symm) _ _ _ G hl
                      · skip
                        have c_120 : ¬ (((mR1 (xu V 17 20 0) a b cnt).1) ≤ k) := fun h9 => c_120 ((nI_leI (a := ((mR1 (xu V 17 20 0) a b cnt).1)) (b := k) (by omega) (by omega)).mpr h9)
                        have d_120 : k < (mR1 (xu V 17 20 0) a b cnt).1 := by omega
                        refine lv_aload_n hx hb dX3_meet_123 rfl (lv_at hl 1 rfl) ?_
                        refine lv_aload_n hx hb dX3_meet_124 rfl (lv_at hl 1 rfl) ?_
                        refine m_getA B G M hin 14 (by decide) (by decide +kernel) dX3_meet_125 ?_
                        refine lv_iload hx hb dX3_meet_128 (lv_at hl 8 rfl) ?_
                        refine m_ald B G M 14 (by decide) k (show k < 80 by omega) rfl dX3_meet_130 ?_
                        refine x_top (show _ = nI a from c_104) ?_
                        refine lv_iload hx hb dX3_meet_131 (lv_at hl 0 rfl) ?_
                        refine lv_aload_n hx hb dX3_meet_133 rfl (lv_at hl 1 rfl) ?_
                        refine m_getA B G M hin 13 (by decide) (by decide +kernel) dX3_meet_134 ?_
                        refine lv_iload hx hb dX3_meet_137 (lv_at hl 8 rfl) ?_
                        refine m_ald B G M 13 (by decide) k (show k < 80 by omega) rfl dX3_meet_139 ?_
                        refine x_top (show _ = nI (mJb W0 k) from e13) ?_
                        refine x_callVi (rest := [.int made]) B G (c_X3_deliver l M W0 a b (mJb W0 k) (by omega) (by omega) l13) (cwV 3 B.1.2.2.2.2 gX3_meet_X3_deliver rfl rfl rfl (by decide +kernel) ⟨Nat.le_of_ble_eq_true rfl, Nat.le_of_ble_eq_true rfl⟩) (m_recv B G M) rfl hl.1 rfl (Nat.le_of_ble_eq_true rfl) ⟨Nat.zero_le _, Nat.zero_le _⟩ dX3_meet_140 (fun H locs G => ?_)
                        refine lv_goto (tgt := 166) hx hb dX3_meet_143 (by decide) ?_
                        refine lv_iadd hx hb dX3_meet_166 ?_
                        refine lv_istore (lv' := [(6, .int (made + 1)), (8, .int (nI b)), (0, .ref (ad 17)), (1, .int (nI a)), (2, .int (nI b)), (3, .int most), (4, .int (nI ((mR1 (xu V 17 20 0) a b cnt).1))), (5, .int (nI ((mR2 (xu V 17 20 0) a b cnt).1))), (7, .int (nI k))]) hx hb dX3_meet_167 hl (by decide) rfl (fun ls hl => ?_)
                        refine lv_iinc (v := nI (k + 1)) (lv' := [(7, .int (nI (k + 1))), (6, .int (made + 1)), (8, .int (nI b)), (0, .ref (ad 17)), (1, .int (nI a)), (2, .int (nI b)), (3, .int most), (4, .int (nI ((mR1 (xu V 17 20 0) a b cnt).1))), (5, .int (nI ((mR2 (xu V 17 20 0) a b cnt).1)))]) hx hb dX3_meet_169 hl (k := 8) rfl (nI_add k 1) (by decide) rfl (fun ls hl => ?_)
                        refine lv_goto (tgt := 83) hx hb dX3_meet_172 (by decide) ?_
                        have e_s : mSt W0 a b (mR1 (xu V 17 20 0) a b cnt).1 k cnt = (1, mDel W0 a b (mJb W0 k)) := by unfold mSt; rw [if_pos d_120, e_f, e_t]
                        have hl := lv_sub (l' := [(0, .ref (ad 17)), (1, .int (nI a)), (2, .int (nI b)), (3, .int most), (4, .int (nI ((mR1 (xu V 17 20 0) a b cnt).1))), (5, .int (nI ((mR2 (xu V 17 20 0) a b cnt).1))), (6, .int (made + 1)), (7, .int (nI (k + 1)))]) hl [3, 4, 5, 6, 7, 8, 1, 0] rfl
                        have hl := lv_cast hl (congrArg (fun z : Int32 => ([(0, .ref (ad 17)), (1, .int (nI a)), (2, .int (nI b)), (3, .int most), (4, .int (nI ((mR1 (xu V 17 20 0) a b cnt).1))), (5, .int (nI ((mR2 (xu V 17 20 0) a b cnt).1))), (6, .int z), (7, .int (nI (k + 1)))] : List (Nat × Value))) (show made + 1 = made + (mSt W0 a b (mR1 (xu V 17 20 0) a b cnt).1 k cnt).1 from (by rw [e_s])))
                        have eV : mDel W0 a b (mJb W0 k) = (mSt W0 a b (mR1 (xu V 17 20 0) a b cnt).1 k cnt).2 := (by rw [e_s])
                        rw [eV] at G
                        exact ih_83 (k + 1) (made + (mSt W0 a b (mR1 (xu V 17 20 0) a b cnt).1 k cnt).1) (mSt W0 a b (mR1 (xu V 17 20 0) a b cnt).1 k cnt).2 (by omega) (by omega) (fun i hi => (mSt_o _ _ _ _ _ _ hi).trans (hW i hi)) (by rw [← hL]; exact ((if_neg c_87).trans (if_neg c_93)).symm) _ _ _ G hl
            have hl := lv_sub (l' := [(0, .ref (ad 17)), (1, .int (nI a)), (2, .int (nI b)), (3, .int most), (4, .int (nI ((mR1 (xu V 17 20 0) a b cnt).1))), (5, .int (nI ((mR2 (xu V 17 20 0) a b cnt).1))), (6, .int 0), (7, .int 0)]) hl [4, 5, 6, 7, 3, 2, 1, 0] rfl
            have hl := lv_cast hl (congrArg (fun z : Int32 => ([(0, .ref (ad 17)), (1, .int (nI a)), (2, .int (nI b)), (3, .int most), (4, .int (nI ((mR1 (xu V 17 20 0) a b cnt).1))), (5, .int (nI ((mR2 (xu V 17 20 0) a b cnt).1))), (6, .int 0), (7, .int z)] : List (Nat × Value))) (show 0 = nI 0 from rfl))
            exact main ((mR2 (xu V 17 20 0) a b cnt).1 + 1) 0 0 (mM2 (xu V 17 20 0) a b cnt) (Nat.zero_le _) (by omega) (fun _ _ => rfl) rfl _ _ _ G hl
          · exact False.elim (c_45 (by decide))
        · exact False.elim (b2i_0.mp c_34 (hm))
    · exact False.elim (b2i_0.mp c_14 (nodeOK hb8))
