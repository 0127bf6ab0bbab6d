/-- promised: the least arrival found among the first i nodes (-1 none), and the world behind the asking -/
def mPrV (V : xV) (k g nc : Nat) : Nat → xV
  | 0 => V
  | i + 1 => if V 6 (40 * i + k) ≤ 0 then mPrV V k g nc i else mFin (mPrV V k g nc i) i nc
def mPrA (V : xV) (k g nc i : Nat) : Int32 := if V 6 (40 * i + k) ≤ 0 then -1 else mFin (mPrV V k g nc i) i nc 15 g
def mPrL (V : xV) (k g nc : Nat) : Nat → Int32
  | 0 => -1
  | i + 1 => if mPrA V k g nc i < 0 then mPrL V k g nc i else if mPrL V k g nc i < 0 then mPrA V k g nc i else if mPrL V k g nc i ≤ mPrA V k g nc i then mPrL V k g nc i else mPrA V k g nc i
theorem mPrL_s (V : xV) (k g nc i : Nat) : mPrL V k g nc (i + 1) = if mPrA V k g nc i < 0 then mPrL V k g nc i else if mPrL V k g nc i < 0 then mPrA V k g nc i else if mPrL V k g nc i ≤ mPrA V k g nc i then mPrL V k g nc i else mPrA V k g nc i := rfl
theorem mPrV_o (V : xV) (k g nc i : Nat) {j : Nat} (h15 : j ≠ 15) (h16 : j ≠ 16) : mPrV V k g nc i j = V j := by
  induction i with
  | zero => rfl
  | succ i ih =>
    unfold mPrV
    split
    · exact ih
    · rw [mFin_o _ _ _ h15 h16, ih]
def mPrR (V : xV) (k g nc : Nat) : Int32 := if mPrL V k g nc 8 < 0 then -1 else if V 2 k ≤ mPrL V k g nc 8 then -1 else mPrL V k g nc 8
set_option maxHeartbeats 4000000 in
set_option maxRecDepth 100000 in
theorem c_X3_promised_bad (l : Launch) {D : va_G} {sh : xS} {ad : Nat → Nat} {cI : ClassId} {tys : List (ClassId × FieldType)} (M : xMm sh ad cI tys) (V : xV) (x : Int32) (h : ¬ (0 ≤ x ∧ x ≤ V 17 17 - 1)) : xMi l yX3_promised wsX3_promised (rmK 2) D sh ad tys V [.ref (ad 17), .int x] (-1) (xu V 17 20 1) := by
  refine xOfi (cc := cX3_promised) (nL := 5) (ret := some .int) (own := RX3) (by decide) rfl rfl (Nat.le_of_ble_eq_true rfl) M.2.2 ?_
  intro p e s m args below meth c A ls B G hl
  have hx := B.1.1
  have hb := B.1.2.1
  have hin : ∀ w ∈ wsX30, w ∈ wsX3_promised := by decide +kernel
  have hl : lv_has ls 5 [(0, .ref (ad 17)), (1, .int x)] := hl
  refine lv_aload_n hx hb dX3_promised_0 rfl (lv_at hl 0 rfl) ?_
  refine lv_aload_n hx hb dX3_promised_1 rfl (lv_at hl 0 rfl) ?_
  refine lv_iload_n hx hb dX3_promised_2 rfl (lv_at hl 1 rfl) ?_
  refine x_callVi (rest := [.ref (ad 17)]) B G (c_X3_isBundle l M V x) (cwV 1 B.1.2.2.2.2 gX3_promised_X3_isBundle rfl rfl rfl (by decide +kernel) ⟨Nat.le_of_ble_eq_true rfl, Nat.le_of_ble_eq_true rfl⟩) (m_recv B G M) rfl hl.1 rfl (Nat.le_of_ble_eq_true rfl) ⟨Nat.zero_le _, Nat.zero_le _⟩ dX3_promised_3 (fun H locs G => ?_)
  refine lv_if_eq (tgt := 13) hx hb dX3_promised_6 (by decide) (fun c_6 => ?_) (fun c_6 => ?_)
  · skip
    refine lv_iconst (v := 1) hx hb dX3_promised_13 (by decide) ?_
    refine x_callVi (rest := []) B G (c_X3_holds l M V 1) (cwV 1 B.1.2.2.2.2 gX3_promised_X3_holds rfl rfl rfl (by decide +kernel) ⟨Nat.le_of_ble_eq_true rfl, Nat.le_of_ble_eq_true rfl⟩) (m_recv B G M) rfl hl.1 rfl (Nat.le_of_ble_eq_true rfl) ⟨Nat.zero_le _, Nat.zero_le _⟩ dX3_promised_14 (fun H locs G => ?_)
    refine lv_if_eq (tgt := 22) hx hb dX3_promised_17 (by decide) (fun c_17 => ?_) (fun c_17 => ?_)
    · exact False.elim (absurd c_17 (by decide))
    · skip
      refine lv_iconst (v := (-1)) hx hb dX3_promised_20 (by decide) ?_
      exact x_iret B G (rfl) (rfl) dX3_promised_21
  · exact False.elim (c_6 (b2i_f (h)))
set_option maxHeartbeats 4000000 in
set_option maxRecDepth 100000 in
theorem c_X3_promised_ok (l : Launch) {D : va_G} {sh : xS} {ad : Nat → Nat} {cI : ClassId} {tys : List (ClassId × FieldType)} (M : xMm sh ad cI tys) (V : xV) (k g nc : Nat) (hk : k < 40) (hk1 : 0 ≤ nI k ∧ nI k ≤ V 17 17 - 1) (hg : V 0 k = nI g) (hg8 : g < 8) (hnc : V 17 18 = nI nc) (hc30 : nc ≤ 30) (hpl : mPl V nc) : xMi l yX3_promised wsX3_promised (rmK 2) D sh ad tys V [.ref (ad 17), .int (nI k)] (mPrR (xu V 17 20 0) k g nc) (mPrV (xu V 17 20 0) k g nc 8) := by
  refine xOfi (cc := cX3_promised) (nL := 5) (ret := some .int) (own := RX3) (by decide) rfl rfl (Nat.le_of_ble_eq_true rfl) M.2.2 ?_
  intro p e s m args below meth c A ls B G hl
  have hx := B.1.1
  have hb := B.1.2.1
  have hin : ∀ w ∈ wsX30, w ∈ wsX3_promised := by decide +kernel
  have hl : lv_has ls 5 [(0, .ref (ad 17)), (1, .int (nI k))] := hl
  refine lv_aload_n hx hb dX3_promised_0 rfl (lv_at hl 0 rfl) ?_
  refine lv_aload_n hx hb dX3_promised_1 rfl (lv_at hl 0 rfl) ?_
  refine lv_iload_n hx hb dX3_promised_2 rfl (lv_at hl 1 rfl) ?_
  refine x_callVi (rest := [.ref (ad 17)]) B G (c_X3_isBundle l M V (nI k)) (cwV 1 B.1.2.2.2.2 gX3_promised_X3_isBundle rfl rfl rfl (by decide +kernel) ⟨Nat.le_of_ble_eq_true rfl, Nat.le_of_ble_eq_true rfl⟩) (m_recv B G M) rfl hl.1 rfl (Nat.le_of_ble_eq_true rfl) ⟨Nat.zero_le _, Nat.zero_le _⟩ dX3_promised_3 (fun H locs G => ?_)
  refine lv_if_eq (tgt := 13) hx hb dX3_promised_6 (by decide) (fun c_6 => ?_) (fun c_6 => ?_)
  · exact False.elim (b2i_0.mp c_6 (hk1))
  · skip
    refine lv_iconst (v := 0) hx hb dX3_promised_9 (by decide) ?_
    refine lv_goto (tgt := 14) hx hb dX3_promised_10 (by decide) ?_
    refine x_callVi (rest := []) B G (c_X3_holds l M V 0) (cwV 1 B.1.2.2.2.2 gX3_promised_X3_holds rfl rfl rfl (by decide +kernel) ⟨Nat.le_of_ble_eq_true rfl, Nat.le_of_ble_eq_true rfl⟩) (m_recv B G M) rfl hl.1 rfl (Nat.le_of_ble_eq_true rfl) ⟨Nat.zero_le _, Nat.zero_le _⟩ dX3_promised_14 (fun H locs G => ?_)
    refine lv_if_eq (tgt := 22) hx hb dX3_promised_17 (by decide) (fun c_17 => ?_) (fun c_17 => ?_)
    · skip
      refine lv_iconst (v := (-1)) hx hb dX3_promised_22 (by decide) ?_
      refine lv_istore_n (lv' := [(2, .int (-1)), (0, .ref (ad 17)), (1, .int (nI k))]) hx hb dX3_promised_23 rfl hl (by decide) rfl (fun ls hl => ?_)
      refine lv_iconst (v := 0) hx hb dX3_promised_24 (by decide) ?_
      refine lv_istore_n (lv' := [(3, .int 0), (2, .int (-1)), (0, .ref (ad 17)), (1, .int (nI k))]) hx hb dX3_promised_25 rfl hl (by decide) rfl (fun ls hl => ?_)
      have loop_26 : ∀ (f i : Nat), i ≤ 8 → 8 < i + f → ∀ (H : Heap) (locs : List Loc) (ls : Array Slot), xG D sh ad A s.heap (mPrV (xu V 17 20 0) k g nc i) H locs → lv_has ls 5 [(0, .ref (ad 17)), (1, .int (nI k)), (2, .int (mPrL (xu V 17 20 0) k g nc i)), (3, .int (nI i))] → W p l e (rmK 2) s m args below meth c H locs 0 0 (xQi below D sh ad tys A args s (mPrR (xu V 17 20 0) k g nc) (mPrV (xu V 17 20 0) k g nc 8)) (F0 m 26 ls []) := by
        intro f
        induction f with
        | zero => intro i h1 h2; exact absurd h2 (by omega)
        | succ f ih_26 =>
          intro i hi hf H locs ls G hl
          refine lv_iload_n hx hb dX3_promised_26 rfl (lv_at hl 3 rfl) ?_
          refine lv_bipush (v := 8) hx hb dX3_promised_27 (by decide) ?_
          refine lv_icmp_ge (tgt := 91) hx hb dX3_promised_29 (by decide) (fun c_29 => ?_) (fun c_29 => ?_)
          · skip
            have c_29 : 8 ≤ i := (nI_leI (a := 8) (b := i) (by omega) (by omega)).mp c_29
            refine lv_iload_n hx hb dX3_promised_91 rfl (lv_at hl 2 rfl) ?_
            refine lv_if_lt (tgt := 109) hx hb dX3_promised_92 (by decide) (fun c_92 => ?_) (fun c_92 => ?_)
            · skip
              refine lv_iconst (v := (-1)) hx hb dX3_promised_109 (by decide) ?_
              exact x_iret B G (by rw [show i = 8 by omega] at c_92; unfold mPrR; rw [if_pos c_92]) (by rw [show i = 8 by omega]) dX3_promised_110
            · skip
              refine lv_iload_n hx hb dX3_promised_95 rfl (lv_at hl 2 rfl) ?_
              refine lv_aload_n hx hb dX3_promised_96 rfl (lv_at hl 0 rfl) ?_
              refine m_getA B G M hin 2 (by decide) (by decide +kernel) dX3_promised_97 ?_
              refine lv_iload_n hx hb dX3_promised_100 rfl (lv_at hl 1 rfl) ?_
              refine m_ald B G M 2 (by decide) k (show k < 40 by omega) rfl dX3_promised_101 ?_
              refine lv_icmp_ge (tgt := 109) hx hb dX3_promised_102 (by decide) (fun c_102 => ?_) (fun c_102 => ?_)
              · skip
                refine lv_iconst (v := (-1)) hx hb dX3_promised_109 (by decide) ?_
                exact x_iret B G (by rw [show i = 8 by omega] at c_92 c_102; unfold mPrR; rw [if_neg c_92, if_pos (show xu V 17 20 0 2 k ≤ _ by rw [mPrV_o _ _ _ _ _ (by decide) (by decide)] at c_102; exact c_102)]) (by rw [show i = 8 by omega]) dX3_promised_110
              · skip
                refine lv_iload_n hx hb dX3_promised_105 rfl (lv_at hl 2 rfl) ?_
                refine lv_goto (tgt := 110) hx hb dX3_promised_106 (by decide) ?_
                exact x_iret B G (by rw [show i = 8 by omega] at c_92 c_102 ⊢; unfold mPrR; rw [if_neg c_92, if_neg (show ¬ xu V 17 20 0 2 k ≤ _ by rw [mPrV_o _ _ _ _ _ (by decide) (by decide)] at c_102; exact c_102)]) (by rw [show i = 8 by omega]) dX3_promised_110
          · skip
            have c_29 : ¬ (8 ≤ i) := fun h9 => c_29 ((nI_leI (a := 8) (b := i) (by omega) (by omega)).mpr h9)
            refine lv_aload_n hx hb dX3_promised_32 rfl (lv_at hl 0 rfl) ?_
            refine m_getA B G M hin 6 (by decide) (by decide +kernel) dX3_promised_33 ?_
            refine lv_bipush (v := 40) hx hb dX3_promised_36 (by decide) ?_
            refine lv_iload_n hx hb dX3_promised_38 rfl (lv_at hl 3 rfl) ?_
            refine lv_imul hx hb dX3_promised_39 ?_
            refine x_top (show 40 * (nI i) = nI (40 * i) from pk_mul 40 i) ?_
            refine lv_iload_n hx hb dX3_promised_40 rfl (lv_at hl 1 rfl) ?_
            refine lv_iadd hx hb dX3_promised_41 ?_
            refine x_top (show (nI (40 * i)) + (nI k) = nI ((40 * i) + k) from nI_add (40 * i) k) ?_
            refine m_ald B G M 6 (by decide) ((40 * i) + k) (show ((40 * i) + k) < 320 by omega) rfl dX3_promised_42 ?_
            refine x_top (show _ = V 6 (40 * i + k) from (by rw [mPrV_o _ _ _ _ _ (by decide) (by decide)]; rfl)) ?_
            refine lv_if_le (tgt := 60) hx hb dX3_promised_43 (by decide) (fun c_43 => ?_) (fun c_43 => ?_)
            · skip
              refine lv_iconst (v := (-1)) hx hb dX3_promised_60 (by decide) ?_
              refine lv_istore (lv' := [(4, .int (-1)), (0, .ref (ad 17)), (1, .int (nI k)), (2, .int (mPrL (xu V 17 20 0) k g nc i)), (3, .int (nI i))]) hx hb dX3_promised_61 hl (by decide) rfl (fun ls hl => ?_)
              refine lv_iload hx hb dX3_promised_63 (lv_at hl 0 rfl) ?_
              refine lv_if_lt (tgt := 83) hx hb dX3_promised_65 (by decide) (fun c_65 => ?_) (fun c_65 => ?_)
              · skip
                refine lv_iload_n hx hb dX3_promised_83 rfl (lv_at hl 3 rfl) ?_
                refine lv_istore_n (lv' := [(2, .int (mPrL (xu V 17 20 0) k g nc i)), (4, .int (-1)), (0, .ref (ad 17)), (1, .int (nI k)), (3, .int (nI i))]) hx hb dX3_promised_84 rfl hl (by decide) rfl (fun ls hl => ?_)
                refine lv_iinc (v := nI (i + 1)) (lv' := [(3, .int (nI (i + 1))), (2, .int (mPrL (xu V 17 20 0) k g nc i)), (4, .int (-1)), (0, .ref (ad 17)), (1, .int (nI k))]) hx hb dX3_promised_85 hl (k := 4) rfl (nI_add i 1) (by decide) rfl (fun ls hl => ?_)
                refine lv_goto (tgt := 26) hx hb dX3_promised_88 (by decide) ?_
                have hl := lv_sub (l' := [(0, .ref (ad 17)), (1, .int (nI k)), (2, .int (mPrL (xu V 17 20 0) k g nc i)), (3, .int (nI (i + 1)))]) hl [3, 4, 1, 0] rfl
                have hl := lv_cast hl (congrArg (fun z : Int32 => ([(0, .ref (ad 17)), (1, .int (nI k)), (2, .int z), (3, .int (nI (i + 1)))] : List (Nat × Value))) (show mPrL (xu V 17 20 0) k g nc i = mPrL (xu V 17 20 0) k g nc (i + 1) from (by have hA : mPrA (xu V 17 20 0) k g nc i = -1 := if_pos c_43; rw [mPrL_s]; rw [hA, if_pos c_65])))
                have eV : mPrV (xu V 17 20 0) k g nc i = mPrV (xu V 17 20 0) k g nc (i + 1) := (if_pos c_43).symm
                rw [eV] at G
                exact ih_26 (i + 1) (by omega) (by omega) _ _ _ G hl
              · exact False.elim (c_65 (by decide))
            · skip
              refine lv_aload_n hx hb dX3_promised_46 rfl (lv_at hl 0 rfl) ?_
              refine lv_iload_n hx hb dX3_promised_47 rfl (lv_at hl 3 rfl) ?_
              refine lv_aload_n hx hb dX3_promised_48 rfl (lv_at hl 0 rfl) ?_
              refine m_getA B G M hin 0 (by decide) (by decide +kernel) dX3_promised_49 ?_
              refine lv_iload_n hx hb dX3_promised_52 rfl (lv_at hl 1 rfl) ?_
              refine m_ald B G M 0 (by decide) k (show k < 40 by omega) rfl dX3_promised_53 ?_
              refine x_top (show _ = nI g from (by rw [mPrV_o _ _ _ _ _ (by decide) (by decide)]; exact hg)) ?_
              refine x_callVi (rest := []) B G (c_X3_reach l M (mPrV (xu V 17 20 0) k g nc i) i g nc (by omega) (by omega) (by rw [mPrV_o _ _ _ _ _ (by decide) (by decide)]; exact hnc) hc30 (hpl.eq (by rw [mPrV_o _ _ _ _ _ (by decide) (by decide)]; rfl))) (cwV 2 B.1.2.2.2.2 gX3_promised_X3_reach rfl rfl rfl (by decide +kernel) ⟨Nat.le_of_ble_eq_true rfl, Nat.le_of_ble_eq_true rfl⟩) (m_recv B G M) rfl hl.1 rfl (Nat.le_of_ble_eq_true rfl) ⟨Nat.zero_le _, Nat.zero_le _⟩ dX3_promised_54 (fun H locs G => ?_)
              refine lv_goto (tgt := 61) hx hb dX3_promised_57 (by decide) ?_
              refine lv_istore (lv' := [(4, .int (mFin (mPrV (xu V 17 20 0) k g nc i) i nc 15 g)), (0, .ref (ad 17)), (1, .int (nI k)), (2, .int (mPrL (xu V 17 20 0) k g nc i)), (3, .int (nI i))]) hx hb dX3_promised_61 hl (by decide) rfl (fun ls hl => ?_)
              refine lv_iload hx hb dX3_promised_63 (lv_at hl 0 rfl) ?_
              refine lv_if_lt (tgt := 83) hx hb dX3_promised_65 (by decide) (fun c_65 => ?_) (fun c_65 => ?_)
              · skip
                refine lv_iload_n hx hb dX3_promised_83 rfl (lv_at hl 3 rfl) ?_
                refine lv_istore_n (lv' := [(2, .int (mPrL (xu V 17 20 0) k g nc i)), (4, .int (mFin (mPrV (xu V 17 20 0) k g nc i) i nc 15 g)), (0, .ref (ad 17)), (1, .int (nI k)), (3, .int (nI i))]) hx hb dX3_promised_84 rfl hl (by decide) rfl (fun ls hl => ?_)
                refine lv_iinc (v := nI (i + 1)) (lv' := [(3, .int (nI (i + 1))), (2, .int (mPrL (xu V 17 20 0) k g nc i)), (4, .int (mFin (mPrV (xu V 17 20 0) k g nc i) i nc 15 g)), (0, .ref (ad 17)), (1, .int (nI k))]) hx hb dX3_promised_85 hl (k := 4) rfl (nI_add i 1) (by decide) rfl (fun ls hl => ?_)
                refine lv_goto (tgt := 26) hx hb dX3_promised_88 (by decide) ?_
                have hl := lv_sub (l' := [(0, .ref (ad 17)), (1, .int (nI k)), (2, .int (mPrL (xu V 17 20 0) k g nc i)), (3, .int (nI (i + 1)))]) hl [3, 4, 1, 0] rfl
                have hl := lv_cast hl (congrArg (fun z : Int32 => ([(0, .ref (ad 17)), (1, .int (nI k)), (2, .int z), (3, .int (nI (i + 1)))] : List (Nat × Value))) (show mPrL (xu V 17 20 0) k g nc i = mPrL (xu V 17 20 0) k g nc (i + 1) from (by have hA : mPrA (xu V 17 20 0) k g nc i = mFin (mPrV (xu V 17 20 0) k g nc i) i nc 15 g := if_neg c_43; rw [mPrL_s]; rw [hA, if_pos c_65])))
                have eV : mFin (mPrV (xu V 17 20 0) k g nc i) i nc = mPrV (xu V 17 20 0) k g nc (i + 1) := (if_neg c_43).symm
                rw [eV] at G
                exact ih_26 (i + 1) (by omega) (by omega) _ _ _ G hl
              · skip
                refine lv_iload_n hx hb dX3_promised_68 rfl (lv_at hl 3 rfl) ?_
                refine lv_if_lt (tgt := 78) hx hb dX3_promised_69 (by decide) (fun c_69 => ?_) (fun c_69 => ?_)
                · skip
                  refine lv_iload hx hb dX3_promised_78 (lv_at hl 0 rfl) ?_
                  refine lv_goto (tgt := 84) hx hb dX3_promised_80 (by decide) ?_
                  refine lv_istore_n (lv' := [(2, .int (mFin (mPrV (xu V 17 20 0) k g nc i) i nc 15 g)), (4, .int (mFin (mPrV (xu V 17 20 0) k g nc i) i nc 15 g)), (0, .ref (ad 17)), (1, .int (nI k)), (3, .int (nI i))]) hx hb dX3_promised_84 rfl hl (by decide) rfl (fun ls hl => ?_)
                  refine lv_iinc (v := nI (i + 1)) (lv' := [(3, .int (nI (i + 1))), (2, .int (mFin (mPrV (xu V 17 20 0) k g nc i) i nc 15 g)), (4, .int (mFin (mPrV (xu V 17 20 0) k g nc i) i nc 15 g)), (0, .ref (ad 17)), (1, .int (nI k))]) hx hb dX3_promised_85 hl (k := 4) rfl (nI_add i 1) (by decide) rfl (fun ls hl => ?_)
                  refine lv_goto (tgt := 26) hx hb dX3_promised_88 (by decide) ?_
                  have hl := lv_sub (l' := [(0, .ref (ad 17)), (1, .int (nI k)), (2, .int (mFin (mPrV (xu V 17 20 0) k g nc i) i nc 15 g)), (3, .int (nI (i + 1)))]) hl [3, 4, 1, 0] rfl
                  have hl := lv_cast hl (congrArg (fun z : Int32 => ([(0, .ref (ad 17)), (1, .int (nI k)), (2, .int z), (3, .int (nI (i + 1)))] : List (Nat × Value))) (show mFin (mPrV (xu V 17 20 0) k g nc i) i nc 15 g = mPrL (xu V 17 20 0) k g nc (i + 1) from (by have hA : mPrA (xu V 17 20 0) k g nc i = mFin (mPrV (xu V 17 20 0) k g nc i) i nc 15 g := if_neg c_43; rw [mPrL_s]; rw [hA, if_neg c_65, if_pos c_69])))
                  have eV : mFin (mPrV (xu V 17 20 0) k g nc i) i nc = mPrV (xu V 17 20 0) k g nc (i + 1) := (if_neg c_43).symm
                  rw [eV] at G
                  exact ih_26 (i + 1) (by omega) (by omega) _ _ _ G hl
                · skip
                  refine lv_iload hx hb dX3_promised_72 (lv_at hl 0 rfl) ?_
                  refine lv_iload_n hx hb dX3_promised_74 rfl (lv_at hl 3 rfl) ?_
                  refine lv_icmp_ge (tgt := 83) hx hb dX3_promised_75 (by decide) (fun c_75 => ?_) (fun c_75 => ?_)
                  · skip
                    refine lv_iload_n hx hb dX3_promised_83 rfl (lv_at hl 3 rfl) ?_
                    refine lv_istore_n (lv' := [(2, .int (mPrL (xu V 17 20 0) k g nc i)), (4, .int (mFin (mPrV (xu V 17 20 0) k g nc i) i nc 15 g)), (0, .ref (ad 17)), (1, .int (nI k)), (3, .int (nI i))]) hx hb dX3_promised_84 rfl hl (by decide) rfl (fun ls hl => ?_)
                    refine lv_iinc (v := nI (i + 1)) (lv' := [(3, .int (nI (i + 1))), (2, .int (mPrL (xu V 17 20 0) k g nc i)), (4, .int (mFin (mPrV (xu V 17 20 0) k g nc i) i nc 15 g)), (0, .ref (ad 17)), (1, .int (nI k))]) hx hb dX3_promised_85 hl (k := 4) rfl (nI_add i 1) (by decide) rfl (fun ls hl => ?_)
                    refine lv_goto (tgt := 26) hx hb dX3_promised_88 (by decide) ?_
                    have hl := lv_sub (l' := [(0, .ref (ad 17)), (1, .int (nI k)), (2, .int (mPrL (xu V 17 20 0) k g nc i)), (3, .int (nI (i + 1)))]) hl [3, 4, 1, 0] rfl
                    have hl := lv_cast hl (congrArg (fun z : Int32 => ([(0, .ref (ad 17)), (1, .int (nI k)), (2, .int z), (3, .int (nI (i + 1)))] : List (Nat × Value))) (show mPrL (xu V 17 20 0) k g nc i = mPrL (xu V 17 20 0) k g nc (i + 1) from (by have hA : mPrA (xu V 17 20 0) k g nc i = mFin (mPrV (xu V 17 20 0) k g nc i) i nc 15 g := if_neg c_43; rw [mPrL_s]; rw [hA, if_neg c_65, if_neg c_69, if_pos c_75])))
                    have eV : mFin (mPrV (xu V 17 20 0) k g nc i) i nc = mPrV (xu V 17 20 0) k g nc (i + 1) := (if_neg c_43).symm
                    rw [eV] at G
                    exact ih_26 (i + 1) (by omega) (by omega) _ _ _ G hl
                  · skip
                    refine lv_iload hx hb dX3_promised_78 (lv_at hl 0 rfl) ?_
                    refine lv_goto (tgt := 84) hx hb dX3_promised_80 (by decide) ?_
                    refine lv_istore_n (lv' := [(2, .int (mFin (mPrV (xu V 17 20 0) k g nc i) i nc 15 g)), (4, .int (mFin (mPrV (xu V 17 20 0) k g nc i) i nc 15 g)), (0, .ref (ad 17)), (1, .int (nI k)), (3, .int (nI i))]) hx hb dX3_promised_84 rfl hl (by decide) rfl (fun ls hl => ?_)
                    refine lv_iinc (v := nI (i + 1)) (lv' := [(3, .int (nI (i + 1))), (2, .int (mFin (mPrV (xu V 17 20 0) k g nc i) i nc 15 g)), (4, .int (mFin (mPrV (xu V 17 20 0) k g nc i) i nc 15 g)), (0, .ref (ad 17)), (1, .int (nI k))]) hx hb dX3_promised_85 hl (k := 4) rfl (nI_add i 1) (by decide) rfl (fun ls hl => ?_)
                    refine lv_goto (tgt := 26) hx hb dX3_promised_88 (by decide) ?_
                    have hl := lv_sub (l' := [(0, .ref (ad 17)), (1, .int (nI k)), (2, .int (mFin (mPrV (xu V 17 20 0) k g nc i) i nc 15 g)), (3, .int (nI (i + 1)))]) hl [3, 4, 1, 0] rfl
                    have hl := lv_cast hl (congrArg (fun z : Int32 => ([(0, .ref (ad 17)), (1, .int (nI k)), (2, .int z), (3, .int (nI (i + 1)))] : List (Nat × Value))) (show mFin (mPrV (xu V 17 20 0) k g nc i) i nc 15 g = mPrL (xu V 17 20 0) k g nc (i + 1) from (by have hA : mPrA (xu V 17 20 0) k g nc i = mFin (mPrV (xu V 17 20 0) k g nc i) i nc 15 g := if_neg c_43; rw [mPrL_s]; rw [hA, if_neg c_65, if_neg c_69, if_neg c_75])))
                    have eV : mFin (mPrV (xu V 17 20 0) k g nc i) i nc = mPrV (xu V 17 20 0) k g nc (i + 1) := (if_neg c_43).symm
                    rw [eV] at G
                    exact ih_26 (i + 1) (by omega) (by omega) _ _ _ G hl
      have hl := lv_sub (l' := [(0, .ref (ad 17)), (1, .int (nI k)), (2, .int (-1)), (3, .int 0)]) hl [2, 3, 1, 0] rfl
      have hl := lv_cast hl (congrArg (fun z : Int32 => ([(0, .ref (ad 17)), (1, .int (nI k)), (2, .int z), (3, .int 0)] : List (Nat × Value))) (show (-1) = mPrL (xu V 17 20 0) k g nc 0 from rfl))
      have hl := lv_cast hl (congrArg (fun z : Int32 => ([(0, .ref (ad 17)), (1, .int (nI k)), (2, .int (mPrL (xu V 17 20 0) k g nc 0)), (3, .int z)] : List (Nat × Value))) (show 0 = nI 0 from rfl))
      have eV : xu V 17 20 0 = mPrV (xu V 17 20 0) k g nc 0 := rfl
      rw [eV] at G
      exact loop_26 (8 + 1) 0 (by omega) (by omega) _ _ _ G hl
    · exact False.elim (c_17 (by decide))
def mBoth (V : xV) (a b k : Nat) : Bool := mHas V a k && mHas V b k
/-- custody of the bundle k between its keeper c and the rival r -/
def mEntK (V : xV) (c r k nc : Nat) : xV :=
  (fun V1 : xV => (fun V2 : xV => if V2 15 (V 0 k).toNatClampNeg < 0 then V2 else if V1 15 (V 0 k).toNatClampNeg < 0 then xu V2 3 k (nI r) else if V1 15 (V 0 k).toNatClampNeg ≤ V2 15 (V 0 k).toNatClampNeg then V2 else xu V2 3 k (nI r)) (mFin V1 r nc)) (mFin V c nc)
def mEnt (V : xV) (a b nc : Nat) : Nat → xV
  | 0 => V
  | k + 1 => if mEnt V a b nc k 6 (40 * a + k) ≤ 0 then mEnt V a b nc k else if mEnt V a b nc k 6 (40 * b + k) ≤ 0 then mEnt V a b nc k else
      if mEnt V a b nc k 3 k = nI a then mEntK (mEnt V a b nc k) a b k nc else if mEnt V a b nc k 3 k = nI b then mEntK (mEnt V a b nc k) b a k nc else mEnt V a b nc k
theorem mEntK_o (V : xV) (c r k nc : Nat) {j : Nat} (h3 : j ≠ 3) (h15 : j ≠ 15) (h16 : j ≠ 16) : mEntK V c r k nc j = V j := by
  have e1 : mFin (mFin V c nc) r nc j = V j := by rw [mFin_o _ _ _ h15 h16, mFin_o _ _ _ h15 h16]
  unfold mEntK
  dsimp only
  split
  · exact e1
  · split
    · rw [xu_ne _ _ _ h3]; exact e1
    · split
      · exact e1
      · rw [xu_ne _ _ _ h3]; exact e1
theorem mEnt_o (V : xV) (a b nc k : Nat) {j : Nat} (h3 : j ≠ 3) (h15 : j ≠ 15) (h16 : j ≠ 16) : mEnt V a b nc k j = V j := by
  induction k with
  | zero => rfl
  | succ k ih =>
    unfold mEnt
    split
    · exact ih
    · split
      · exact ih
      · split
        · rw [mEntK_o _ _ _ _ _ h3 h15 h16, ih]
        · split
          · rw [mEntK_o _ _ _ _ _ h3 h15 h16, ih]
          · exact ih
set_option maxHeartbeats 4000000 in
set_option maxRecDepth 100000 in
theorem c_X3_entrust (l : Launch) {D : va_G} {sh : xS} {ad : Nat → Nat} {cI : ClassId} {tys : List (ClassId × FieldType)} (M : xMm sh ad cI tys) (V : xV) (a b nc cnt : Nat) (ha : a < 8) (hb8 : b < 8) (hab : a ≠ b) (hcnt : V 17 17 = nI cnt) (hc40 : cnt ≤ 40) (hnc : V 17 18 = nI nc) (hc30 : nc ≤ 30) (hpl : mPl V nc) (hg : ∀ k, k < cnt → V 0 k = nI (V 0 k).toNatClampNeg ∧ (V 0 k).toNatClampNeg < 8) : xMv l yX3_entrust wsX3_entrust (rmK 2) D sh ad tys V [.ref (ad 17), .int (nI a), .int (nI b)] (mEnt V a b nc cnt) := by
  refine xOfv (cc := cX3_entrust) (nL := 8) (ret := none) (own := RX3) (by decide) rfl rfl (Nat.le_of_ble_eq_true rfl) M.2.2 ?_
  intro p e s m args below meth c A ls B G hl
  have hx := B.1.1
  have hb := B.1.2.1
  have hin : ∀ w ∈ wsX30, w ∈ wsX3_entrust := by decide +kernel
  have hl : lv_has ls 8 [(0, .ref (ad 17)), (1, .int (nI a)), (2, .int (nI b))] := hl
  refine lv_iconst (v := 0) hx hb dX3_entrust_0 (by decide) ?_
  refine lv_istore_n (lv' := [(3, .int 0), (0, .ref (ad 17)), (1, .int (nI a)), (2, .int (nI b))]) hx hb dX3_entrust_1 rfl hl (by decide) rfl (fun ls hl => ?_)
  have loop_2 : ∀ (f i : Nat), i ≤ cnt → cnt < i + f → ∀ (H : Heap) (locs : List Loc) (ls : Array Slot), xG D sh ad A s.heap (mEnt V a b nc i) H locs → lv_has ls 8 [(0, .ref (ad 17)), (1, .int (nI a)), (2, .int (nI b)), (3, .int (nI i))] → W p l e (rmK 2) s m args below meth c H locs 0 0 (xQv below D sh ad tys A args s (mEnt V a b nc cnt)) (F0 m 2 ls []) := by
    intro f
    induction f with
    | zero => intro i h1 h2; exact absurd h2 (by omega)
    | succ f ih_2 =>
      intro i hi hf H locs ls G hl
      refine lv_iload_n hx hb dX3_entrust_2 rfl (lv_at hl 3 rfl) ?_
      refine lv_aload_n hx hb dX3_entrust_3 rfl (lv_at hl 0 rfl) ?_
      refine m_getI B G M hin 17 (by decide) (by decide +kernel) dX3_entrust_4 ?_
      refine x_top (show _ = nI cnt from (by rw [mEnt_o _ _ _ _ _ (by decide) (by decide) (by decide)]; exact hcnt)) ?_
      refine lv_icmp_ge (tgt := 150) hx hb dX3_entrust_7 (by decide) (fun c_7 => ?_) (fun c_7 => ?_)
      · skip
        have c_7 : cnt ≤ i := (nI_leI (a := cnt) (b := i) (by omega) (by omega)).mp c_7
        exact x_vret B G (by rw [show i = cnt by omega]) dX3_entrust_150
      · skip
        have c_7 : ¬ (cnt ≤ i) := fun h9 => c_7 ((nI_leI (a := cnt) (b := i) (by omega) (by omega)).mpr h9)
        have o_0 : (mEnt V a b nc i) 0 = V 0 := mEnt_o _ _ _ _ _ (by decide) (by decide) (by decide)
        have g_1 : (mEnt V a b nc i) 0 i = nI ((mEnt V a b nc i) 0 i).toNatClampNeg := by rw [o_0]; exact (hg i (by omega)).1
        have g_2 : ((mEnt V a b nc i) 0 i).toNatClampNeg < 8 := by rw [o_0]; exact (hg i (by omega)).2
        have o_17 : (mEnt V a b nc i) 17 = V 17 := mEnt_o _ _ _ _ _ (by decide) (by decide) (by decide)
        have o_pl : mPl (mEnt V a b nc i) nc := hpl.eq (mEnt_o _ _ _ _ _ (by decide) (by decide) (by decide))
        refine lv_aload_n hx hb dX3_entrust_10 rfl (lv_at hl 0 rfl) ?_
        refine m_getA B G M hin 6 (by decide) (by decide +kernel) dX3_entrust_11 ?_
        refine lv_bipush (v := 40) hx hb dX3_entrust_14 (by decide) ?_
        refine lv_iload_n hx hb dX3_entrust_16 rfl (lv_at hl 1 rfl) ?_
        refine lv_imul hx hb dX3_entrust_17 ?_
        refine x_top (show 40 * (nI a) = nI (40 * a) from pk_mul 40 a) ?_
        refine lv_iload_n hx hb dX3_entrust_18 rfl (lv_at hl 3 rfl) ?_
        refine lv_iadd hx hb dX3_entrust_19 ?_
        refine x_top (show (nI (40 * a)) + (nI i) = nI ((40 * a) + i) from nI_add (40 * a) i) ?_
        refine m_ald B G M 6 (by decide) ((40 * a) + i) (show ((40 * a) + i) < 320 by omega) rfl dX3_entrust_20 ?_
        refine lv_if_le (tgt := 42) hx hb dX3_entrust_21 (by decide) (fun c_21 => ?_) (fun c_21 => ?_)
        · skip
          refine lv_iconst (v := 0) hx hb dX3_entrust_42 (by decide) ?_
          refine lv_istore (lv' := [(4, .int 0), (0, .ref (ad 17)), (1, .int (nI a)), (2, .int (nI b)), (3, .int (nI i))]) hx hb dX3_entrust_43 hl (by decide) rfl (fun ls hl => ?_)
          refine lv_iload hx hb dX3_entrust_45 (lv_at hl 0 rfl) ?_
          refine lv_if_eq (tgt := 144) hx hb dX3_entrust_47 (by decide) (fun c_47 => ?_) (fun c_47 => ?_)
          · skip
            refine lv_iinc (v := nI (i + 1)) (lv' := [(3, .int (nI (i + 1))), (4, .int 0), (0, .ref (ad 17)), (1, .int (nI a)), (2, .int (nI b))]) hx hb dX3_entrust_144 hl (k := 4) rfl (nI_add i 1) (by decide) rfl (fun ls hl => ?_)
            refine lv_goto (tgt := 2) hx hb dX3_entrust_147 (by decide) ?_
            have hl := lv_sub (l' := [(0, .ref (ad 17)), (1, .int (nI a)), (2, .int (nI b)), (3, .int (nI (i + 1)))]) hl [2, 3, 4, 0] rfl
            have eV : mEnt V a b nc i = mEnt V a b nc (i + 1) := (if_pos c_21).symm
            rw [eV] at G
            exact ih_2 (i + 1) (by omega) (by omega) _ _ _ G hl
          · exact False.elim (c_47 (by decide))
        · skip
          refine lv_aload_n hx hb dX3_entrust_24 rfl (lv_at hl 0 rfl) ?_
          refine m_getA B G M hin 6 (by decide) (by decide +kernel) dX3_entrust_25 ?_
          refine lv_bipush (v := 40) hx hb dX3_entrust_28 (by decide) ?_
          refine lv_iload_n hx hb dX3_entrust_30 rfl (lv_at hl 2 rfl) ?_
          refine lv_imul hx hb dX3_entrust_31 ?_
          refine x_top (show 40 * (nI b) = nI (40 * b) from pk_mul 40 b) ?_
          refine lv_iload_n hx hb dX3_entrust_32 rfl (lv_at hl 3 rfl) ?_
          refine lv_iadd hx hb dX3_entrust_33 ?_
          refine x_top (show (nI (40 * b)) + (nI i) = nI ((40 * b) + i) from nI_add (40 * b) i) ?_
          refine m_ald B G M 6 (by decide) ((40 * b) + i) (show ((40 * b) + i) < 320 by omega) rfl dX3_entrust_34 ?_
          refine lv_if_le (tgt := 42) hx hb dX3_entrust_35 (by decide) (fun c_35 => ?_) (fun c_35 => ?_)
          · skip
            refine lv_iconst (v := 0) hx hb dX3_entrust_42 (by decide) ?_
            refine lv_istore (lv' := [(4, .int 0), (0, .ref (ad 17)), (1, .int (nI a)), (2, .int (nI b)), (3, .int (nI i))]) hx hb dX3_entrust_43 hl (by decide) rfl (fun ls hl => ?_)
            refine lv_iload hx hb dX3_entrust_45 (lv_at hl 0 rfl) ?_
            refine lv_if_eq (tgt := 144) hx hb dX3_entrust_47 (by decide) (fun c_47 => ?_) (fun c_47 => ?_)
            · skip
              refine lv_iinc (v := nI (i + 1)) (lv' := [(3, .int (nI (i + 1))), (4, .int 0), (0, .ref (ad 17)), (1, .int (nI a)), (2, .int (nI b))]) hx hb dX3_entrust_144 hl (k := 4) rfl (nI_add i 1) (by decide) rfl (fun ls hl => ?_)
              refine lv_goto (tgt := 2) hx hb dX3_entrust_147 (by decide) ?_
              have hl := lv_sub (l' := [(0, .ref (ad 17)), (1, .int (nI a)), (2, .int (nI b)), (3, .int (nI (i + 1)))]) hl [2, 3, 4, 0] rfl
              have eV : mEnt V a b nc i = mEnt V a b nc (i + 1) := ((if_neg c_21).trans (if_pos c_35)).symm
              rw [eV] at G
              exact ih_2 (i + 1) (by omega) (by omega) _ _ _ G hl
            · exact False.elim (c_47 (by decide))
          · skip
            refine lv_iconst (v := 1) hx hb dX3_entrust_38 (by decide) ?_
            refine lv_goto (tgt := 43) hx hb dX3_entrust_39 (by decide) ?_
            refine lv_istore (lv' := [(4, .int 1), (0, .ref (ad 17)), (1, .int (nI a)), (2, .int (nI b)), (3, .int (nI i))]) hx hb dX3_entrust_43 hl (by decide) rfl (fun ls hl => ?_)
            refine lv_iload hx hb dX3_entrust_45 (lv_at hl 0 rfl) ?_
            refine lv_if_eq (tgt := 144) hx hb dX3_entrust_47 (by decide) (fun c_47 => ?_) (fun c_47 => ?_)
            · exact False.elim (absurd c_47 (by decide))
            · skip
              refine lv_aload_n hx hb dX3_entrust_50 rfl (lv_at hl 1 rfl) ?_
              refine m_getA B G M hin 3 (by decide) (by decide +kernel) dX3_entrust_51 ?_
              refine lv_iload_n hx hb dX3_entrust_54 rfl (lv_at hl 4 rfl) ?_
              refine m_ald B G M 3 (by decide) i (show i < 40 by omega) rfl dX3_entrust_55 ?_
              refine lv_iload_n hx hb dX3_entrust_56 rfl (lv_at hl 2 rfl) ?_
              refine lv_icmp_eq (tgt := 70) hx hb dX3_entrust_57 (by decide) (fun c_57 => ?_) (fun c_57 => ?_)
              · skip
                refine lv_aload_n hx hb dX3_entrust_70 rfl (lv_at hl 1 rfl) ?_
                refine m_getA B G M hin 3 (by decide) (by decide +kernel) dX3_entrust_71 ?_
                refine lv_iload_n hx hb dX3_entrust_74 rfl (lv_at hl 4 rfl) ?_
                refine m_ald B G M 3 (by decide) i (show i < 40 by omega) rfl dX3_entrust_75 ?_
                refine lv_iload_n hx hb dX3_entrust_76 rfl (lv_at hl 2 rfl) ?_
                refine lv_icmp_ne (tgt := 84) hx hb dX3_entrust_77 (by decide) (fun c_77 => ?_) (fun c_77 => ?_)
                · exact False.elim (c_77 c_57)
                · skip
                  refine lv_iload_n hx hb dX3_entrust_80 rfl (lv_at hl 3 rfl) ?_
                  refine lv_goto (tgt := 85) hx hb dX3_entrust_81 (by decide) ?_
                  refine lv_istore (lv' := [(5, .int (nI b)), (4, .int 1), (0, .ref (ad 17)), (1, .int (nI a)), (2, .int (nI b)), (3, .int (nI i))]) hx hb dX3_entrust_85 hl (by decide) rfl (fun ls hl => ?_)
                  refine lv_aload_n hx hb dX3_entrust_87 rfl (lv_at hl 2 rfl) ?_
                  refine lv_aload_n hx hb dX3_entrust_88 rfl (lv_at hl 2 rfl) ?_
                  refine m_getA B G M hin 3 (by decide) (by decide +kernel) dX3_entrust_89 ?_
                  refine lv_iload_n hx hb dX3_entrust_92 rfl (lv_at hl 5 rfl) ?_
                  refine m_ald B G M 3 (by decide) i (show i < 40 by omega) rfl dX3_entrust_93 ?_
                  refine x_top (show _ = nI a from c_57) ?_
                  refine lv_aload_n hx hb dX3_entrust_94 rfl (lv_at hl 2 rfl) ?_
                  refine m_getA B G M hin 0 (by decide) (by decide +kernel) dX3_entrust_95 ?_
                  refine lv_iload_n hx hb dX3_entrust_98 rfl (lv_at hl 5 rfl) ?_
                  refine m_ald B G M 0 (by decide) i (show i < 40 by omega) rfl dX3_entrust_99 ?_
                  refine x_top (show _ = nI ((mEnt V a b nc i) 0 i).toNatClampNeg from g_1) ?_
                  refine x_callVi (rest := []) B G (c_X3_reach l M (mEnt V a b nc i) a (((mEnt V a b nc i) 0 i).toNatClampNeg) nc (by omega) (by omega) (by first | exact (congrFun o_17 18).trans hnc | (rw [mFin_o _ _ _ (by decide) (by decide)]; exact (congrFun o_17 18).trans hnc)) hc30 (by first | exact o_pl | exact o_pl.eq (mFin_o _ _ _ (by decide) (by decide)))) (cwV 2 B.1.2.2.2.2 gX3_entrust_X3_reach rfl rfl rfl (by decide +kernel) ⟨Nat.le_of_ble_eq_true rfl, Nat.le_of_ble_eq_true rfl⟩) (m_recv B G M) rfl hl.1 rfl (Nat.le_of_ble_eq_true rfl) ⟨Nat.zero_le _, Nat.zero_le _⟩ dX3_entrust_100 (fun H locs G => ?_)
                  refine lv_istore (lv' := [(6, .int (mFin (mEnt V a b nc i) a nc 15 (((mEnt V a b nc i) 0 i).toNatClampNeg))), (5, .int (nI b)), (4, .int 1), (0, .ref (ad 17)), (1, .int (nI a)), (2, .int (nI b)), (3, .int (nI i))]) hx hb dX3_entrust_103 hl (by decide) rfl (fun ls hl => ?_)
                  refine lv_aload_n hx hb dX3_entrust_105 rfl (lv_at hl 3 rfl) ?_
                  refine lv_iload hx hb dX3_entrust_106 (lv_at hl 1 rfl) ?_
                  refine lv_aload_n hx hb dX3_entrust_108 rfl (lv_at hl 3 rfl) ?_
                  refine m_getA B G M hin 0 (by decide) (by decide +kernel) dX3_entrust_109 ?_
                  refine lv_iload_n hx hb dX3_entrust_112 rfl (lv_at hl 6 rfl) ?_
                  refine m_ald B G M 0 (by decide) i (show i < 40 by omega) rfl dX3_entrust_113 ?_
                  refine x_top (show _ = nI ((mEnt V a b nc i) 0 i).toNatClampNeg from (by rw [mFin_o _ _ _ (by decide) (by decide)]; exact g_1)) ?_
                  refine x_callVi (rest := []) B G (c_X3_reach l M (mFin (mEnt V a b nc i) a nc) b (((mEnt V a b nc i) 0 i).toNatClampNeg) nc (by omega) (by omega) (by first | exact (congrFun o_17 18).trans hnc | (rw [mFin_o _ _ _ (by decide) (by decide)]; exact (congrFun o_17 18).trans hnc)) hc30 (by first | exact o_pl | exact o_pl.eq (mFin_o _ _ _ (by decide) (by decide)))) (cwV 2 B.1.2.2.2.2 gX3_entrust_X3_reach rfl rfl rfl (by decide +kernel) ⟨Nat.le_of_ble_eq_true rfl, Nat.le_of_ble_eq_true rfl⟩) (m_recv B G M) rfl hl.1 rfl (Nat.le_of_ble_eq_true rfl) ⟨Nat.zero_le _, Nat.zero_le _⟩ dX3_entrust_114 (fun H locs G => ?_)
                  refine lv_istore (lv' := [(7, .int (mFin (mFin (mEnt V a b nc i) a nc) b nc 15 (((mEnt V a b nc i) 0 i).toNatClampNeg))), (6, .int (mFin (mEnt V a b nc i) a nc 15 (((mEnt V a b nc i) 0 i).toNatClampNeg))), (5, .int (nI b)), (4, .int 1), (0, .ref (ad 17)), (1, .int (nI a)), (2, .int (nI b)), (3, .int (nI i))]) hx hb dX3_entrust_117 hl (by decide) rfl (fun ls hl => ?_)
                  refine lv_iload hx hb dX3_entrust_119 (lv_at hl 0 rfl) ?_
                  refine lv_if_lt (tgt := 144) hx hb dX3_entrust_121 (by decide) (fun c_121 => ?_) (fun c_121 => ?_)
                  · skip
                    refine lv_iinc (v := nI (i + 1)) (lv' := [(3, .int (nI (i + 1))), (7, .int (mFin (mFin (mEnt V a b nc i) a nc) b nc 15 (((mEnt V a b nc i) 0 i).toNatClampNeg))), (6, .int (mFin (mEnt V a b nc i) a nc 15 (((mEnt V a b nc i) 0 i).toNatClampNeg))), (5, .int (nI b)), (4, .int 1), (0, .ref (ad 17)), (1, .int (nI a)), (2, .int (nI b))]) hx hb dX3_entrust_144 hl (k := 7) rfl (nI_add i 1) (by decide) rfl (fun ls hl => ?_)
                    refine lv_goto (tgt := 2) hx hb dX3_entrust_147 (by decide) ?_
                    have hl := lv_sub (l' := [(0, .ref (ad 17)), (1, .int (nI a)), (2, .int (nI b)), (3, .int (nI (i + 1)))]) hl [5, 6, 7, 0] rfl
                    have eV : mFin (mFin (mEnt V a b nc i) a nc) b nc = mEnt V a b nc (i + 1) := (((if_neg c_21).trans ((if_neg c_35).trans (if_pos c_57))).trans (if_pos c_121)).symm
                    rw [eV] at G
                    exact ih_2 (i + 1) (by omega) (by omega) _ _ _ G hl
                  · skip
                    refine lv_iload hx hb dX3_entrust_124 (lv_at hl 1 rfl) ?_
                    refine lv_if_lt (tgt := 136) hx hb dX3_entrust_126 (by decide) (fun c_126 => ?_) (fun c_126 => ?_)
                    · skip
                      refine lv_aload_n hx hb dX3_entrust_136 rfl (lv_at hl 4 rfl) ?_
                      refine m_getA B G M hin 3 (by decide) (by decide +kernel) dX3_entrust_137 ?_
                      refine lv_iload_n hx hb dX3_entrust_140 rfl (lv_at hl 7 rfl) ?_
                      refine lv_iload hx hb dX3_entrust_141 (lv_at hl 2 rfl) ?_
                      refine m_ast B G M 3 (by decide) i (show i < 40 by omega) rfl dX3_entrust_143 (fun H locs G => ?_)
                      refine lv_iinc (v := nI (i + 1)) (lv' := [(3, .int (nI (i + 1))), (7, .int (mFin (mFin (mEnt V a b nc i) a nc) b nc 15 (((mEnt V a b nc i) 0 i).toNatClampNeg))), (6, .int (mFin (mEnt V a b nc i) a nc 15 (((mEnt V a b nc i) 0 i).toNatClampNeg))), (5, .int (nI b)), (4, .int 1), (0, .ref (ad 17)), (1, .int (nI a)), (2, .int (nI b))]) hx hb dX3_entrust_144 hl (k := 7) rfl (nI_add i 1) (by decide) rfl (fun ls hl => ?_)
                      refine lv_goto (tgt := 2) hx hb dX3_entrust_147 (by decide) ?_
                      have hl := lv_sub (l' := [(0, .ref (ad 17)), (1, .int (nI a)), (2, .int (nI b)), (3, .int (nI (i + 1)))]) hl [5, 6, 7, 0] rfl
                      have eV : xu (mFin (mFin (mEnt V a b nc i) a nc) b nc) 3 i (nI b) = mEnt V a b nc (i + 1) := (((if_neg c_21).trans ((if_neg c_35).trans (if_pos c_57))).trans ((if_neg c_121).trans (if_pos c_126))).symm
                      rw [eV] at G
                      exact ih_2 (i + 1) (by omega) (by omega) _ _ _ G hl
                    · skip
                      refine lv_iload hx hb dX3_entrust_129 (lv_at hl 0 rfl) ?_
                      refine lv_iload hx hb dX3_entrust_131 (lv_at hl 1 rfl) ?_
                      refine lv_icmp_ge (tgt := 144) hx hb dX3_entrust_133 (by decide) (fun c_133 => ?_) (fun c_133 => ?_)
                      · skip
                        refine lv_iinc (v := nI (i + 1)) (lv' := [(3, .int (nI (i + 1))), (7, .int (mFin (mFin (mEnt V a b nc i) a nc) b nc 15 (((mEnt V a b nc i) 0 i).toNatClampNeg))), (6, .int (mFin (mEnt V a b nc i) a nc 15 (((mEnt V a b nc i) 0 i).toNatClampNeg))), (5, .int (nI b)), (4, .int 1), (0, .ref (ad 17)), (1, .int (nI a)), (2, .int (nI b))]) hx hb dX3_entrust_144 hl (k := 7) rfl (nI_add i 1) (by decide) rfl (fun ls hl => ?_)
                        refine lv_goto (tgt := 2) hx hb dX3_entrust_147 (by decide) ?_
                        have hl := lv_sub (l' := [(0, .ref (ad 17)), (1, .int (nI a)), (2, .int (nI b)), (3, .int (nI (i + 1)))]) hl [5, 6, 7, 0] rfl
                        have eV : mFin (mFin (mEnt V a b nc i) a nc) b nc = mEnt V a b nc (i + 1) := (((if_neg c_21).trans ((if_neg c_35).trans (if_pos c_57))).trans ((if_neg c_121).trans ((if_neg c_126).trans (if_pos c_133)))).symm
                        rw [eV] at G
                        exact ih_2 (i + 1) (by omega) (by omega) _ _ _ G hl
                      · skip
                        refine lv_aload_n hx hb dX3_entrust_136 rfl (lv_at hl 4 rfl) ?_
                        refine m_getA B G M hin 3 (by decide) (by decide +kernel) dX3_entrust_137 ?_
                        refine lv_iload_n hx hb dX3_entrust_140 rfl (lv_at hl 7 rfl) ?_
                        refine lv_iload hx hb dX3_entrust_141 (lv_at hl 2 rfl) ?_
                        refine m_ast B G M 3 (by decide) i (show i < 40 by omega) rfl dX3_entrust_143 (fun H locs G => ?_)
                        refine lv_iinc (v := nI (i + 1)) (lv' := [(3, .int (nI (i + 1))), (7, .int (mFin (mFin (mEnt V a b nc i) a nc) b nc 15 (((mEnt V a b nc i) 0 i).toNatClampNeg))), (6, .int (mFin (mEnt V a b nc i) a nc 15 (((mEnt V a b nc i) 0 i).toNatClampNeg))), (5, .int (nI b)), (4, .int 1), (0, .ref (ad 17)), (1, .int (nI a)), (2, .int (nI b))]) hx hb dX3_entrust_144 hl (k := 7) rfl (nI_add i 1) (by decide) rfl (fun ls hl => ?_)
                        refine lv_goto (tgt := 2) hx hb dX3_entrust_147 (by decide) ?_
                        have hl := lv_sub (l' := [(0, .ref (ad 17)), (1, .int (nI a)), (2, .int (nI b)), (3, .int (nI (i + 1)))]) hl [5, 6, 7, 0] rfl
                        have eV : xu (mFin (mFin (mEnt V a b nc i) a nc) b nc) 3 i (nI b) = mEnt V a b nc (i + 1) := (((if_neg c_21).trans ((if_neg c_35).trans (if_pos c_57))).trans ((if_neg c_121).trans ((if_neg c_126).trans (if_neg c_133)))).symm
                        rw [eV] at G
                        exact ih_2 (i + 1) (by omega) (by omega) _ _ _ G hl
              · skip
                refine lv_aload_n hx hb dX3_entrust_60 rfl (lv_at hl 1 rfl) ?_
                refine m_getA B G M hin 3 (by decide) (by decide +kernel) dX3_entrust_61 ?_
                refine lv_iload_n hx hb dX3_entrust_64 rfl (lv_at hl 4 rfl) ?_
                refine m_ald B G M 3 (by decide) i (show i < 40 by omega) rfl dX3_entrust_65 ?_
                refine lv_iload_n hx hb dX3_entrust_66 rfl (lv_at hl 3 rfl) ?_
                refine lv_icmp_ne (tgt := 144) hx hb dX3_entrust_67 (by decide) (fun c_67 => ?_) (fun c_67 => ?_)
                · skip
                  refine lv_iinc (v := nI (i + 1)) (lv' := [(3, .int (nI (i + 1))), (4, .int 1), (0, .ref (ad 17)), (1, .int (nI a)), (2, .int (nI b))]) hx hb dX3_entrust_144 hl (k := 4) rfl (nI_add i 1) (by decide) rfl (fun ls hl => ?_)
                  refine lv_goto (tgt := 2) hx hb dX3_entrust_147 (by decide) ?_
                  have hl := lv_sub (l' := [(0, .ref (ad 17)), (1, .int (nI a)), (2, .int (nI b)), (3, .int (nI (i + 1)))]) hl [2, 3, 4, 0] rfl
                  have eV : mEnt V a b nc i = mEnt V a b nc (i + 1) := ((if_neg c_21).trans ((if_neg c_35).trans ((if_neg c_57).trans (if_neg c_67)))).symm
                  rw [eV] at G
                  exact ih_2 (i + 1) (by omega) (by omega) _ _ _ G hl
                · skip
                  refine lv_aload_n hx hb dX3_entrust_70 rfl (lv_at hl 1 rfl) ?_
                  refine m_getA B G M hin 3 (by decide) (by decide +kernel) dX3_entrust_71 ?_
                  refine lv_iload_n hx hb dX3_entrust_74 rfl (lv_at hl 4 rfl) ?_
                  refine m_ald B G M 3 (by decide) i (show i < 40 by omega) rfl dX3_entrust_75 ?_
                  refine lv_iload_n hx hb dX3_entrust_76 rfl (lv_at hl 2 rfl) ?_
                  refine lv_icmp_ne (tgt := 84) hx hb dX3_entrust_77 (by decide) (fun c_77 => ?_) (fun c_77 => ?_)
                  · skip
                    refine lv_iload_n hx hb dX3_entrust_84 rfl (lv_at hl 2 rfl) ?_
                    refine lv_istore (lv' := [(5, .int (nI a)), (4, .int 1), (0, .ref (ad 17)), (1, .int (nI a)), (2, .int (nI b)), (3, .int (nI i))]) hx hb dX3_entrust_85 hl (by decide) rfl (fun ls hl => ?_)
                    refine lv_aload_n hx hb dX3_entrust_87 rfl (lv_at hl 2 rfl) ?_
                    refine lv_aload_n hx hb dX3_entrust_88 rfl (lv_at hl 2 rfl) ?_
                    refine m_getA B G M hin 3 (by decide) (by decide +kernel) dX3_entrust_89 ?_
                    refine lv_iload_n hx hb dX3_entrust_92 rfl (lv_at hl 5 rfl) ?_
                    refine m_ald B G M 3 (by decide) i (show i < 40 by omega) rfl dX3_entrust_93 ?_
                    refine x_top (show _ = nI b from c_67) ?_
                    refine lv_aload_n hx hb dX3_entrust_94 rfl (lv_at hl 2 rfl) ?_
                    refine m_getA B G M hin 0 (by decide) (by decide +kernel) dX3_entrust_95 ?_
                    refine lv_iload_n hx hb dX3_entrust_98 rfl (lv_at hl 5 rfl) ?_
                    refine m_ald B G M 0 (by decide) i (show i < 40 by omega) rfl dX3_entrust_99 ?_
                    refine x_top (show _ = nI ((mEnt V a b nc i) 0 i).toNatClampNeg from g_1) ?_
                    refine x_callVi (rest := []) B G (c_X3_reach l M (mEnt V a b nc i) b (((mEnt V a b nc i) 0 i).toNatClampNeg) nc (by omega) (by omega) (by first | exact (congrFun o_17 18).trans hnc | (rw [mFin_o _ _ _ (by decide) (by decide)]; exact (congrFun o_17 18).trans hnc)) hc30 (by first | exact o_pl | exact o_pl.eq (mFin_o _ _ _ (by decide) (by decide)))) (cwV 2 B.1.2.2.2.2 gX3_entrust_X3_reach rfl rfl rfl (by decide +kernel) ⟨Nat.le_of_ble_eq_true rfl, Nat.le_of_ble_eq_true rfl⟩) (m_recv B G M) rfl hl.1 rfl (Nat.le_of_ble_eq_true rfl) ⟨Nat.zero_le _, Nat.zero_le _⟩ dX3_entrust_100 (fun H locs G => ?_)
                    refine lv_istore (lv' := [(6, .int (mFin (mEnt V a b nc i) b nc 15 (((mEnt V a b nc i) 0 i).toNatClampNeg))), (5, .int (nI a)), (4, .int 1), (0, .ref (ad 17)), (1, .int (nI a)), (2, .int (nI b)), (3, .int (nI i))]) hx hb dX3_entrust_103 hl (by decide) rfl (fun ls hl => ?_)
                    refine lv_aload_n hx hb dX3_entrust_105 rfl (lv_at hl 3 rfl) ?_
                    refine lv_iload hx hb dX3_entrust_106 (lv_at hl 1 rfl) ?_
                    refine lv_aload_n hx hb dX3_entrust_108 rfl (lv_at hl 3 rfl) ?_
                    refine m_getA B G M hin 0 (by decide) (by decide +kernel) dX3_entrust_109 ?_
                    refine lv_iload_n hx hb dX3_entrust_112 rfl (lv_at hl 6 rfl) ?_
                    refine m_ald B G M 0 (by decide) i (show i < 40 by omega) rfl dX3_entrust_113 ?_
                    refine x_top (show _ = nI ((mEnt V a b nc i) 0 i).toNatClampNeg from (by rw [mFin_o _ _ _ (by decide) (by decide)]; exact g_1)) ?_
                    refine x_callVi (rest := []) B G (c_X3_reach l M (mFin (mEnt V a b nc i) b nc) a (((mEnt V a b nc i) 0 i).toNatClampNeg) nc (by omega) (by omega) (by first | exact (congrFun o_17 18).trans hnc | (rw [mFin_o _ _ _ (by decide) (by decide)]; exact (congrFun o_17 18).trans hnc)) hc30 (by first | exact o_pl | exact o_pl.eq (mFin_o _ _ _ (by decide) (by decide)))) (cwV 2 B.1.2.2.2.2 gX3_entrust_X3_reach rfl rfl rfl (by decide +kernel) ⟨Nat.le_of_ble_eq_true rfl, Nat.le_of_ble_eq_true rfl⟩) (m_recv B G M) rfl hl.1 rfl (Nat.le_of_ble_eq_true rfl) ⟨Nat.zero_le _, Nat.zero_le _⟩ dX3_entrust_114 (fun H locs G => ?_)
                    refine lv_istore (lv' := [(7, .int (mFin (mFin (mEnt V a b nc i) b nc) a nc 15 (((mEnt V a b nc i) 0 i).toNatClampNeg))), (6, .int (mFin (mEnt V a b nc i) b nc 15 (((mEnt V a b nc i) 0 i).toNatClampNeg))), (5, .int (nI a)), (4, .int 1), (0, .ref (ad 17)), (1, .int (nI a)), (2, .int (nI b)), (3, .int (nI i))]) hx hb dX3_entrust_117 hl (by decide) rfl (fun ls hl => ?_)
                    refine lv_iload hx hb dX3_entrust_119 (lv_at hl 0 rfl) ?_
                    refine lv_if_lt (tgt := 144) hx hb dX3_entrust_121 (by decide) (fun c_121 => ?_) (fun c_121 => ?_)
                    · skip
                      refine lv_iinc (v := nI (i + 1)) (lv' := [(3, .int (nI (i + 1))), (7, .int (mFin (mFin (mEnt V a b nc i) b nc) a nc 15 (((mEnt V a b nc i) 0 i).toNatClampNeg))), (6, .int (mFin (mEnt V a b nc i) b nc 15 (((mEnt V a b nc i) 0 i).toNatClampNeg))), (5, .int (nI a)), (4, .int 1), (0, .ref (ad 17)), (1, .int (nI a)), (2, .int (nI b))]) hx hb dX3_entrust_144 hl (k := 7) rfl (nI_add i 1) (by decide) rfl (fun ls hl => ?_)
                      refine lv_goto (tgt := 2) hx hb dX3_entrust_147 (by decide) ?_
                      have hl := lv_sub (l' := [(0, .ref (ad 17)), (1, .int (nI a)), (2, .int (nI b)), (3, .int (nI (i + 1)))]) hl [5, 6, 7, 0] rfl
                      have eV : mFin (mFin (mEnt V a b nc i) b nc) a nc = mEnt V a b nc (i + 1) := (((if_neg c_21).trans ((if_neg c_35).trans ((if_neg c_57).trans (if_pos c_67)))).trans (if_pos c_121)).symm
                      rw [eV] at G
                      exact ih_2 (i + 1) (by omega) (by omega) _ _ _ G hl
                    · skip
                      refine lv_iload hx hb dX3_entrust_124 (lv_at hl 1 rfl) ?_
                      refine lv_if_lt (tgt := 136) hx hb dX3_entrust_126 (by decide) (fun c_126 => ?_) (fun c_126 => ?_)
                      · skip
                        refine lv_aload_n hx hb dX3_entrust_136 rfl (lv_at hl 4 rfl) ?_
                        refine m_getA B G M hin 3 (by decide) (by decide +kernel) dX3_entrust_137 ?_
                        refine lv_iload_n hx hb dX3_entrust_140 rfl (lv_at hl 7 rfl) ?_
                        refine lv_iload hx hb dX3_entrust_141 (lv_at hl 2 rfl) ?_
                        refine m_ast B G M 3 (by decide) i (show i < 40 by omega) rfl dX3_entrust_143 (fun H locs G => ?_)
                        refine lv_iinc (v := nI (i + 1)) (lv' := [(3, .int (nI (i + 1))), (7, .int (mFin (mFin (mEnt V a b nc i) b nc) a nc 15 (((mEnt V a b nc i) 0 i).toNatClampNeg))), (6, .int (mFin (mEnt V a b nc i) b nc 15 (((mEnt V a b nc i) 0 i).toNatClampNeg))), (5, .int (nI a)), (4, .int 1), (0, .ref (ad 17)), (1, .int (nI a)), (2, .int (nI b))]) hx hb dX3_entrust_144 hl (k := 7) rfl (nI_add i 1) (by decide) rfl (fun ls hl => ?_)
                        refine lv_goto (tgt := 2) hx hb dX3_entrust_147 (by decide) ?_
                        have hl := lv_sub (l' := [(0, .ref (ad 17)), (1, .int (nI a)), (2, .int (nI b)), (3, .int (nI (i + 1)))]) hl [5, 6, 7, 0] rfl
                        have eV : xu (mFin (mFin (mEnt V a b nc i) b nc) a nc) 3 i (nI a) = mEnt V a b nc (i + 1) := (((if_neg c_21).trans ((if_neg c_35).trans ((if_neg c_57).trans (if_pos c_67)))).trans ((if_neg c_121).trans (if_pos c_126))).symm
                        rw [eV] at G
                        exact ih_2 (i + 1) (by omega) (by omega) _ _ _ G hl
                      · skip
                        refine lv_iload hx hb dX3_entrust_129 (lv_at hl 0 rfl) ?_
                        refine lv_iload hx hb dX3_entrust_131 (lv_at hl 1 rfl) ?_
                        refine lv_icmp_ge (tgt := 144) hx hb dX3_entrust_133 (by decide) (fun c_133 => ?_) (fun c_133 => ?_)
                        · skip
                          refine lv_iinc (v := nI (i + 1)) (lv' := [(3, .int (nI (i + 1))), (7, .int (mFin (mFin (mEnt V a b nc i) b nc) a nc 15 (((mEnt V a b nc i) 0 i).toNatClampNeg))), (6, .int (mFin (mEnt V a b nc i) b nc 15 (((mEnt V a b nc i) 0 i).toNatClampNeg))), (5, .int (nI a)), (4, .int 1), (0, .ref (ad 17)), (1, .int (nI a)), (2, .int (nI b))]) hx hb dX3_entrust_144 hl (k := 7) rfl (nI_add i 1) (by decide) rfl (fun ls hl => ?_)
                          refine lv_goto (tgt := 2) hx hb dX3_entrust_147 (by decide) ?_
                          have hl := lv_sub (l' := [(0, .ref (ad 17)), (1, .int (nI a)), (2, .int (nI b)), (3, .int (nI (i + 1)))]) hl [5, 6, 7, 0] rfl
                          have eV : mFin (mFin (mEnt V a b nc i) b nc) a nc = mEnt V a b nc (i + 1) := (((if_neg c_21).trans ((if_neg c_35).trans ((if_neg c_57).trans (if_pos c_67)))).trans ((if_neg c_121).trans ((if_neg c_126).trans (if_pos c_133)))).symm
                          rw [eV] at G
                          exact ih_2 (i + 1) (by omega) (by omega) _ _ _ G hl
                        · skip
                          refine lv_aload_n hx hb dX3_entrust_136 rfl (lv_at hl 4 rfl) ?_
                          refine m_getA B G M hin 3 (by decide) (by decide +kernel) dX3_entrust_137 ?_
                          refine lv_iload_n hx hb dX3_entrust_140 rfl (lv_at hl 7 rfl) ?_
                          refine lv_iload hx hb dX3_entrust_141 (lv_at hl 2 rfl) ?_
                          refine m_ast B G M 3 (by decide) i (show i < 40 by omega) rfl dX3_entrust_143 (fun H locs G => ?_)
                          refine lv_iinc (v := nI (i + 1)) (lv' := [(3, .int (nI (i + 1))), (7, .int (mFin (mFin (mEnt V a b nc i) b nc) a nc 15 (((mEnt V a b nc i) 0 i).toNatClampNeg))), (6, .int (mFin (mEnt V a b nc i) b nc 15 (((mEnt V a b nc i) 0 i).toNatClampNeg))), (5, .int (nI a)), (4, .int 1), (0, .ref (ad 17)), (1, .int (nI a)), (2, .int (nI b))]) hx hb dX3_entrust_144 hl (k := 7) rfl (nI_add i 1) (by decide) rfl (fun ls hl => ?_)
                          refine lv_goto (tgt := 2) hx hb dX3_entrust_147 (by decide) ?_
                          have hl := lv_sub (l' := [(0, .ref (ad 17)), (1, .int (nI a)), (2, .int (nI b)), (3, .int (nI (i + 1)))]) hl [5, 6, 7, 0] rfl
                          have eV : xu (mFin (mFin (mEnt V a b nc i) b nc) a nc) 3 i (nI a) = mEnt V a b nc (i + 1) := (((if_neg c_21).trans ((if_neg c_35).trans ((if_neg c_57).trans (if_pos c_67)))).trans ((if_neg c_121).trans ((if_neg c_126).trans (if_neg c_133)))).symm
                          rw [eV] at G
                          exact ih_2 (i + 1) (by omega) (by omega) _ _ _ G hl
                  · exact False.elim (c_57 c_77)
  have hl := lv_sub (l' := [(0, .ref (ad 17)), (1, .int (nI a)), (2, .int (nI b)), (3, .int 0)]) hl [1, 2, 3, 0] rfl
  have hl := lv_cast hl (congrArg (fun z : Int32 => ([(0, .ref (ad 17)), (1, .int (nI a)), (2, .int (nI b)), (3, .int z)] : List (Nat × Value))) (show 0 = nI 0 from rfl))
  have eV : V = mEnt V a b nc 0 := rfl
  rw [eV] at G
  exact loop_2 (cnt + 1) 0 (by omega) (by omega) _ _ _ G hl
def mDel (V : xV) (a b k : Nat) : xV := mLearn (mLearn (xu (xu V 4 k (V 17 19)) 5 k (V 7 (40 * a + k) + 1)) a k) b k
set_option maxHeartbeats 4000000 in
set_option maxRecDepth 100000 in
theorem c_X3_deliver (l : Launch) {D : va_G} {sh : xS} {ad : Nat → Nat} {cI : ClassId} {tys : List (ClassId × FieldType)} (M : xMm sh ad cI tys) (V : xV) (a b k : Nat) (ha : a < 8) (hb8 : b < 8) (hk : k < 40) : xMi l yX3_deliver wsX3_deliver (rmK 1) D sh ad tys V [.ref (ad 17), .int (nI a), .int (nI b), .int (nI k)] 1 (mDel V a b k) := by
  refine xOfi (cc := cX3_deliver) (nL := 4) (ret := some .int) (own := RX3) (by decide) rfl rfl (Nat.le_of_ble_eq_true rfl) M.2.2 ?_
  intro p e s m args below meth c A ls B G hl
  have hx := B.1.1
  have hb := B.1.2.1
  have hin : ∀ w ∈ wsX30, w ∈ wsX3_deliver := by decide +kernel
  have hl : lv_has ls 4 [(0, .ref (ad 17)), (1, .int (nI a)), (2, .int (nI b)), (3, .int (nI k))] := hl
  refine lv_aload_n hx hb dX3_deliver_0 rfl (lv_at hl 0 rfl) ?_
  refine m_getA B G M hin 4 (by decide) (by decide +kernel) dX3_deliver_1 ?_
  refine lv_iload_n hx hb dX3_deliver_4 rfl (lv_at hl 3 rfl) ?_
  refine lv_aload_n hx hb dX3_deliver_5 rfl (lv_at hl 0 rfl) ?_
  refine m_getI B G M hin 19 (by decide) (by decide +kernel) dX3_deliver_6 ?_
  refine m_ast B G M 4 (by decide) k (show k < 40 by omega) rfl dX3_deliver_9 (fun H locs G => ?_)
  refine lv_aload_n hx hb dX3_deliver_10 rfl (lv_at hl 0 rfl) ?_
  refine m_getA B G M hin 5 (by decide) (by decide +kernel) dX3_deliver_11 ?_
  refine lv_iload_n hx hb dX3_deliver_14 rfl (lv_at hl 3 rfl) ?_
  refine lv_aload_n hx hb dX3_deliver_15 rfl (lv_at hl 0 rfl) ?_
  refine m_getA B G M hin 7 (by decide) (by decide +kernel) dX3_deliver_16 ?_
  refine lv_bipush (v := 40) hx hb dX3_deliver_19 (by decide) ?_
  refine lv_iload_n hx hb dX3_deliver_21 rfl (lv_at hl 1 rfl) ?_
  refine lv_imul hx hb dX3_deliver_22 ?_
  refine x_top (show 40 * (nI a) = nI (40 * a) from pk_mul 40 a) ?_
  refine lv_iload_n hx hb dX3_deliver_23 rfl (lv_at hl 3 rfl) ?_
  refine lv_iadd hx hb dX3_deliver_24 ?_
  refine x_top (show (nI (40 * a)) + (nI k) = nI ((40 * a) + k) from nI_add (40 * a) k) ?_
  refine m_ald B G M 7 (by decide) ((40 * a) + k) (show ((40 * a) + k) < 320 by omega) rfl dX3_deliver_25 ?_
  refine lv_iconst (v := 1) hx hb dX3_deliver_26 (by decide) ?_
  refine lv_iadd hx hb dX3_deliver_27 ?_
  refine m_ast B G M 5 (by decide) k (show k < 40 by omega) rfl dX3_deliver_28 (fun H locs G => ?_)
  refine lv_aload_n hx hb dX3_deliver_29 rfl (lv_at hl 0 rfl) ?_
  refine lv_iload_n hx hb dX3_deliver_30 rfl (lv_at hl 1 rfl) ?_
  refine lv_iload_n hx hb dX3_deliver_31 rfl (lv_at hl 3 rfl) ?_
  refine x_callVv (rest := []) B G (c_X3_learn l M (xu (xu V 4 k (V 17 19)) 5 k (((xu V 4 k (V 17 19)) 7 ((40 * a) + k)) + 1)) a k (by omega) (by omega)) (cwV 2 B.1.2.2.2.2 gX3_deliver_X3_learn rfl rfl rfl (by decide +kernel) ⟨Nat.le_of_ble_eq_true rfl, Nat.le_of_ble_eq_true rfl⟩) (m_recv B G M) rfl hl.1 rfl (Nat.le_of_ble_eq_true rfl) ⟨Nat.zero_le _, Nat.zero_le _⟩ dX3_deliver_32 (fun H locs G => ?_)
  refine lv_aload_n hx hb dX3_deliver_35 rfl (lv_at hl 0 rfl) ?_
  refine lv_iload_n hx hb dX3_deliver_36 rfl (lv_at hl 2 rfl) ?_
  refine lv_iload_n hx hb dX3_deliver_37 rfl (lv_at hl 3 rfl) ?_
  refine x_callVv (rest := []) B G (c_X3_learn l M (mLearn (xu (xu V 4 k (V 17 19)) 5 k (((xu V 4 k (V 17 19)) 7 ((40 * a) + k)) + 1)) a k) b k (by omega) (by omega)) (cwV 2 B.1.2.2.2.2 gX3_deliver_X3_learn rfl rfl rfl (by decide +kernel) ⟨Nat.le_of_ble_eq_true rfl, Nat.le_of_ble_eq_true rfl⟩) (m_recv B G M) rfl hl.1 rfl (Nat.le_of_ble_eq_true rfl) ⟨Nat.zero_le _, Nat.zero_le _⟩ dX3_deliver_38 (fun H locs G => ?_)
  refine lv_iconst (v := 1) hx hb dX3_deliver_41 (by decide) ?_
  exact x_iret B G (rfl) (rfl) dX3_deliver_42
def mSpB (V : xV) (a b k cnt : Nat) : Bool := if V 6 (40 * a + k) = 0 then false else mRoomB V b (V 1 k) cnt
def mSpV (V : xV) (a b k cnt : Nat) : xV := if V 6 (40 * a + k) = 0 then V else if mRoomB V b (V 1 k) cnt = true then
    (fun W : xV => xu (xu (xu W 6 (40 * b + k) (V 6 (40 * a + k) / 2)) 6 (40 * a + k) (V 6 (40 * a + k) - V 6 (40 * a + k) / 2)) 7 (40 * b + k) (W 7 (40 * a + k) + 1)) (mRoomV V b (V 1 k) cnt)
  else xu (mRoomV V b (V 1 k) cnt) 11 b (mRoomV V b (V 1 k) cnt 11 b + 1)
set_option maxHeartbeats 4000000 in
set_option maxRecDepth 100000 in
theorem c_X3_spray (l : Launch) {D : va_G} {sh : xS} {ad : Nat → Nat} {cI : ClassId} {tys : List (ClassId × FieldType)} (M : xMm sh ad cI tys) (V : xV) (a b k cnt : Nat) (ha : a < 8) (hb8 : b < 8) (hk : k < 40) (hcnt : V 17 17 = nI cnt) (hc40 : cnt ≤ 40) : xMi l yX3_spray wsX3_spray (rmK 3) D sh ad tys V [.ref (ad 17), .int (nI a), .int (nI b), .int (nI k)] (b2i (mSpB V a b k cnt = true)) (mSpV V a b k cnt) := by
  refine xOfi (cc := cX3_spray) (nL := 5) (ret := some .int) (own := RX3) (by decide) rfl rfl (Nat.le_of_ble_eq_true rfl) M.2.2 ?_
  intro p e s m args below meth c A ls B G hl
  have hx := B.1.1
  have hb := B.1.2.1
  have hin : ∀ w ∈ wsX30, w ∈ wsX3_spray := by decide +kernel
  have hl : lv_has ls 5 [(0, .ref (ad 17)), (1, .int (nI a)), (2, .int (nI b)), (3, .int (nI k))] := hl
  refine lv_aload_n hx hb dX3_spray_0 rfl (lv_at hl 0 rfl) ?_
  refine m_getA B G M hin 6 (by decide) (by decide +kernel) dX3_spray_1 ?_
  refine lv_bipush (v := 40) hx hb dX3_spray_4 (by decide) ?_
  refine lv_iload_n hx hb dX3_spray_6 rfl (lv_at hl 1 rfl) ?_
  refine lv_imul hx hb dX3_spray_7 ?_
  refine x_top (show 40 * (nI a) = nI (40 * a) from pk_mul 40 a) ?_
  refine lv_iload_n hx hb dX3_spray_8 rfl (lv_at hl 3 rfl) ?_
  refine lv_iadd hx hb dX3_spray_9 ?_
  refine x_top (show (nI (40 * a)) + (nI k) = nI ((40 * a) + k) from nI_add (40 * a) k) ?_
  refine m_ald B G M 6 (by decide) ((40 * a) + k) (show ((40 * a) + k) < 320 by omega) rfl dX3_spray_10 ?_
  refine lv_istore (lv' := [(4, .int (V 6 ((40 * a) + k))), (0, .ref (ad 17)), (1, .int (nI a)), (2, .int (nI b)), (3, .int (nI k))]) hx hb dX3_spray_11 hl (by decide) rfl (fun ls hl => ?_)
  refine lv_iload hx hb dX3_spray_13 (lv_at hl 0 rfl) ?_
  refine lv_if_ne (tgt := 20) hx hb dX3_spray_15 (by decide) (fun c_15 => ?_) (fun c_15 => ?_)
  · skip
    refine lv_aload_n hx hb dX3_spray_20 rfl (lv_at hl 1 rfl) ?_
    refine lv_iload_n hx hb dX3_spray_21 rfl (lv_at hl 3 rfl) ?_
    refine lv_aload_n hx hb dX3_spray_22 rfl (lv_at hl 1 rfl) ?_
    refine m_getA B G M hin 1 (by decide) (by decide +kernel) dX3_spray_23 ?_
    refine lv_iload_n hx hb dX3_spray_26 rfl (lv_at hl 4 rfl) ?_
    refine m_ald B G M 1 (by decide) k (show k < 40 by omega) rfl dX3_spray_27 ?_
    refine x_callVi (rest := []) B G (c_X3_hasRoom l M V b cnt (V 1 k) (by omega) hcnt hc40) (cwV 2 B.1.2.2.2.2 gX3_spray_X3_hasRoom rfl rfl rfl (by decide +kernel) ⟨Nat.le_of_ble_eq_true rfl, Nat.le_of_ble_eq_true rfl⟩) (m_recv B G M) rfl hl.1 rfl (Nat.le_of_ble_eq_true rfl) ⟨Nat.zero_le _, Nat.zero_le _⟩ dX3_spray_28 (fun H locs G => ?_)
    refine lv_if_ne (tgt := 46) hx hb dX3_spray_31 (by decide) (fun c_31 => ?_) (fun c_31 => ?_)
    · skip
      refine lv_aload_n hx hb dX3_spray_46 rfl (lv_at hl 1 rfl) ?_
      refine m_getA B G M hin 6 (by decide) (by decide +kernel) dX3_spray_47 ?_
      refine lv_bipush (v := 40) hx hb dX3_spray_50 (by decide) ?_
      refine lv_iload_n hx hb dX3_spray_52 rfl (lv_at hl 3 rfl) ?_
      refine lv_imul hx hb dX3_spray_53 ?_
      refine x_top (show 40 * (nI b) = nI (40 * b) from pk_mul 40 b) ?_
      refine lv_iload_n hx hb dX3_spray_54 rfl (lv_at hl 4 rfl) ?_
      refine lv_iadd hx hb dX3_spray_55 ?_
      refine x_top (show (nI (40 * b)) + (nI k) = nI ((40 * b) + k) from nI_add (40 * b) k) ?_
      refine lv_iload hx hb dX3_spray_56 (lv_at hl 0 rfl) ?_
      refine lv_iconst (v := 2) hx hb dX3_spray_58 (by decide) ?_
      refine lv_idiv hx hb dX3_spray_59 (by decide) ?_
      refine m_ast B G M 6 (by decide) ((40 * b) + k) (show ((40 * b) + k) < 320 by omega) rfl dX3_spray_60 (fun H locs G => ?_)
      refine lv_aload_n hx hb dX3_spray_61 rfl (lv_at hl 1 rfl) ?_
      refine m_getA B G M hin 6 (by decide) (by decide +kernel) dX3_spray_62 ?_
      refine lv_bipush (v := 40) hx hb dX3_spray_65 (by decide) ?_
      refine lv_iload_n hx hb dX3_spray_67 rfl (lv_at hl 2 rfl) ?_
      refine lv_imul hx hb dX3_spray_68 ?_
      refine x_top (show 40 * (nI a) = nI (40 * a) from pk_mul 40 a) ?_
      refine lv_iload_n hx hb dX3_spray_69 rfl (lv_at hl 4 rfl) ?_
      refine lv_iadd hx hb dX3_spray_70 ?_
      refine x_top (show (nI (40 * a)) + (nI k) = nI ((40 * a) + k) from nI_add (40 * a) k) ?_
      refine lv_iload hx hb dX3_spray_71 (lv_at hl 0 rfl) ?_
      refine lv_iload hx hb dX3_spray_73 (lv_at hl 0 rfl) ?_
      refine lv_iconst (v := 2) hx hb dX3_spray_75 (by decide) ?_
      refine lv_idiv hx hb dX3_spray_76 (by decide) ?_
      refine lv_isub hx hb dX3_spray_77 ?_
      refine m_ast B G M 6 (by decide) ((40 * a) + k) (show ((40 * a) + k) < 320 by omega) rfl dX3_spray_78 (fun H locs G => ?_)
      refine lv_aload_n hx hb dX3_spray_79 rfl (lv_at hl 1 rfl) ?_
      refine m_getA B G M hin 7 (by decide) (by decide +kernel) dX3_spray_80 ?_
      refine lv_bipush (v := 40) hx hb dX3_spray_83 (by decide) ?_
      refine lv_iload_n hx hb dX3_spray_85 rfl (lv_at hl 3 rfl) ?_
      refine lv_imul hx hb dX3_spray_86 ?_
      refine x_top (show 40 * (nI b) = nI (40 * b) from pk_mul 40 b) ?_
      refine lv_iload_n hx hb dX3_spray_87 rfl (lv_at hl 4 rfl) ?_
      refine lv_iadd hx hb dX3_spray_88 ?_
      refine x_top (show (nI (40 * b)) + (nI k) = nI ((40 * b) + k) from nI_add (40 * b) k) ?_
      refine lv_aload_n hx hb dX3_spray_89 rfl (lv_at hl 1 rfl) ?_
      refine m_getA B G M hin 7 (by decide) (by decide +kernel) dX3_spray_90 ?_
      refine lv_bipush (v := 40) hx hb dX3_spray_93 (by decide) ?_
      refine lv_iload_n hx hb dX3_spray_95 rfl (lv_at hl 2 rfl) ?_
      refine lv_imul hx hb dX3_spray_96 ?_
      refine x_top (show 40 * (nI a) = nI (40 * a) from pk_mul 40 a) ?_
      refine lv_iload_n hx hb dX3_spray_97 rfl (lv_at hl 4 rfl) ?_
      refine lv_iadd hx hb dX3_spray_98 ?_
      refine x_top (show (nI (40 * a)) + (nI k) = nI ((40 * a) + k) from nI_add (40 * a) k) ?_
      refine m_ald B G M 7 (by decide) ((40 * a) + k) (show ((40 * a) + k) < 320 by omega) rfl dX3_spray_99 ?_
      refine lv_iconst (v := 1) hx hb dX3_spray_100 (by decide) ?_
      refine lv_iadd hx hb dX3_spray_101 ?_
      refine m_ast B G M 7 (by decide) ((40 * b) + k) (show ((40 * b) + k) < 320 by omega) rfl dX3_spray_102 (fun H locs G => ?_)
      refine lv_iconst (v := 1) hx hb dX3_spray_103 (by decide) ?_
      exact x_iret B G (by unfold mSpB; rw [if_neg c_15]; exact (b2i_t (b2i_1 c_31)).symm) (by unfold mSpV; rw [if_neg c_15, if_pos (b2i_1 c_31)]; rfl) dX3_spray_104
    · skip
      refine lv_aload_n hx hb dX3_spray_34 rfl (lv_at hl 1 rfl) ?_
      refine m_getA B G M hin 11 (by decide) (by decide +kernel) dX3_spray_35 ?_
      refine lv_iload_n hx hb dX3_spray_38 rfl (lv_at hl 3 rfl) ?_
      refine lv_dup2_11 hx hb dX3_spray_39 rfl rfl ?_
      refine m_ald B G M 11 (by decide) b (show b < 8 by omega) rfl dX3_spray_40 ?_
      refine lv_iconst (v := 1) hx hb dX3_spray_41 (by decide) ?_
      refine lv_iadd hx hb dX3_spray_42 ?_
      refine m_ast B G M 11 (by decide) b (show b < 8 by omega) rfl dX3_spray_43 (fun H locs G => ?_)
      refine lv_iconst (v := 0) hx hb dX3_spray_44 (by decide) ?_
      exact x_iret B G (by unfold mSpB; rw [if_neg c_15]; exact c_31.symm) (by unfold mSpV; rw [if_neg c_15, if_neg (b2i_0.mp c_31)]) dX3_spray_45
  · skip
    refine lv_iconst (v := 0) hx hb dX3_spray_18 (by decide) ?_
    exact x_iret B G (by unfold mSpB; rw [if_pos c_15]; exact b2i_false.symm) ((if_pos c_15).symm) dX3_spray_19
set_option maxHeartbeats 4000000 in
set_option maxRecDepth 100000 in
theorem c_X3_setBuffer_bad1 (l : Launch) {D : va_G} {sh : xS} {ad : Nat → Nat} {cI : ClassId} {tys : List (ClassId × FieldType)} (M : xMm sh ad cI tys) (V : xV) (x y : Int32) (h : ¬ (0 ≤ x ∧ x ≤ 7)) : xMi l yX3_setBuffer wsX3_setBuffer (rmK 2) D sh ad tys V [.ref (ad 17), .int x, .int y] (-1) (xu V 17 20 1) := by
  refine xOfi (cc := cX3_setBuffer) (nL := 4) (ret := some .int) (own := RX3) (by decide) rfl rfl (Nat.le_of_ble_eq_true rfl) M.2.2 ?_
  intro p e s m args below meth c A ls B G hl
  have hx := B.1.1
  have hb := B.1.2.1
  have hin : ∀ w ∈ wsX30, w ∈ wsX3_setBuffer := by decide +kernel
  have hl : lv_has ls 4 [(0, .ref (ad 17)), (1, .int x), (2, .int y)] := hl
  refine lv_aload_n hx hb dX3_setBuffer_0 rfl (lv_at hl 0 rfl) ?_
  refine lv_aload_n hx hb dX3_setBuffer_1 rfl (lv_at hl 0 rfl) ?_
  refine lv_iload_n hx hb dX3_setBuffer_2 rfl (lv_at hl 1 rfl) ?_
  refine x_callVi (rest := [.ref (ad 17)]) B G (c_X3_isNode l M V x) (cwV 1 B.1.2.2.2.2 gX3_setBuffer_X3_isNode rfl rfl rfl (by decide +kernel) ⟨Nat.le_of_ble_eq_true rfl, Nat.le_of_ble_eq_true rfl⟩) (m_recv B G M) rfl hl.1 rfl (Nat.le_of_ble_eq_true rfl) ⟨Nat.zero_le _, Nat.zero_le _⟩ dX3_setBuffer_3 (fun H locs G => ?_)
  refine lv_if_ne (tgt := 13) hx hb dX3_setBuffer_6 (by decide) (fun c_6 => ?_) (fun c_6 => ?_)
  · exact False.elim (c_6 (b2i_f (h)))
  · skip
    refine lv_iconst (v := 1) hx hb dX3_setBuffer_9 (by decide) ?_
    refine lv_goto (tgt := 42) hx hb dX3_setBuffer_10 (by decide) ?_
    refine x_callVi (rest := []) B G (c_X3_holds l M V 1) (cwV 1 B.1.2.2.2.2 gX3_setBuffer_X3_holds rfl rfl rfl (by decide +kernel) ⟨Nat.le_of_ble_eq_true rfl, Nat.le_of_ble_eq_true rfl⟩) (m_recv B G M) rfl hl.1 rfl (Nat.le_of_ble_eq_true rfl) ⟨Nat.zero_le _, Nat.zero_le _⟩ dX3_setBuffer_42 (fun H locs G => ?_)
    refine lv_if_eq (tgt := 50) hx hb dX3_setBuffer_45 (by decide) (fun c_45 => ?_) (fun c_45 => ?_)
    · exact False.elim (absurd c_45 (by decide))
    · skip
      refine lv_iconst (v := (-1)) hx hb dX3_setBuffer_48 (by decide) ?_
      exact x_iret B G (rfl) (rfl) dX3_setBuffer_49
set_option maxHeartbeats 4000000 in
set_option maxRecDepth 100000 in
theorem c_X3_setBuffer_bad2 (l : Launch) {D : va_G} {sh : xS} {ad : Nat → Nat} {cI : ClassId} {tys : List (ClassId × FieldType)} (M : xMm sh ad cI tys) (V : xV) (n : Nat) (y : Int32) (hn : n < 8) (h : ¬ (1 ≤ y ∧ y ≤ 8)) : xMi l yX3_setBuffer wsX3_setBuffer (rmK 2) D sh ad tys V [.ref (ad 17), .int (nI n), .int y] (-1) (xu V 17 20 2) := by
  refine xOfi (cc := cX3_setBuffer) (nL := 4) (ret := some .int) (own := RX3) (by decide) rfl rfl (Nat.le_of_ble_eq_true rfl) M.2.2 ?_
  intro p e s m args below meth c A ls B G hl
  have hx := B.1.1
  have hb := B.1.2.1
  have hin : ∀ w ∈ wsX30, w ∈ wsX3_setBuffer := by decide +kernel
  have hl : lv_has ls 4 [(0, .ref (ad 17)), (1, .int (nI n)), (2, .int y)] := hl
  refine lv_aload_n hx hb dX3_setBuffer_0 rfl (lv_at hl 0 rfl) ?_
  refine lv_aload_n hx hb dX3_setBuffer_1 rfl (lv_at hl 0 rfl) ?_
  refine lv_iload_n hx hb dX3_setBuffer_2 rfl (lv_at hl 1 rfl) ?_
  refine x_callVi (rest := [.ref (ad 17)]) B G (c_X3_isNode l M V (nI n)) (cwV 1 B.1.2.2.2.2 gX3_setBuffer_X3_isNode rfl rfl rfl (by decide +kernel) ⟨Nat.le_of_ble_eq_true rfl, Nat.le_of_ble_eq_true rfl⟩) (m_recv B G M) rfl hl.1 rfl (Nat.le_of_ble_eq_true rfl) ⟨Nat.zero_le _, Nat.zero_le _⟩ dX3_setBuffer_3 (fun H locs G => ?_)
  refine lv_if_ne (tgt := 13) hx hb dX3_setBuffer_6 (by decide) (fun c_6 => ?_) (fun c_6 => ?_)
  · skip
    refine lv_aload_n hx hb dX3_setBuffer_13 rfl (lv_at hl 0 rfl) ?_
    refine lv_iload_n hx hb dX3_setBuffer_14 rfl (lv_at hl 2 rfl) ?_
    refine lv_iconst (v := 1) hx hb dX3_setBuffer_15 (by decide) ?_
    refine lv_bipush (v := 8) hx hb dX3_setBuffer_16 (by decide) ?_
    refine x_callVi (rest := [.ref (ad 17)]) B G (c_X3_between l M V y 1 8) (cwV 3 B.1.2.2.2.2 gX3_setBuffer_X3_between rfl rfl rfl (by decide +kernel) ⟨Nat.le_of_ble_eq_true rfl, Nat.le_of_ble_eq_true rfl⟩) (m_recv B G M) rfl hl.1 rfl (Nat.le_of_ble_eq_true rfl) ⟨Nat.zero_le _, Nat.zero_le _⟩ dX3_setBuffer_18 (fun H locs G => ?_)
    refine lv_if_ne (tgt := 28) hx hb dX3_setBuffer_21 (by decide) (fun c_21 => ?_) (fun c_21 => ?_)
    · exact False.elim (c_21 (b2i_f (h)))
    · skip
      refine lv_iconst (v := 2) hx hb dX3_setBuffer_24 (by decide) ?_
      refine lv_goto (tgt := 42) hx hb dX3_setBuffer_25 (by decide) ?_
      refine x_callVi (rest := []) B G (c_X3_holds l M V 2) (cwV 1 B.1.2.2.2.2 gX3_setBuffer_X3_holds rfl rfl rfl (by decide +kernel) ⟨Nat.le_of_ble_eq_true rfl, Nat.le_of_ble_eq_true rfl⟩) (m_recv B G M) rfl hl.1 rfl (Nat.le_of_ble_eq_true rfl) ⟨Nat.zero_le _, Nat.zero_le _⟩ dX3_setBuffer_42 (fun H locs G => ?_)
      refine lv_if_eq (tgt := 50) hx hb dX3_setBuffer_45 (by decide) (fun c_45 => ?_) (fun c_45 => ?_)
      · exact False.elim (absurd c_45 (by decide))
      · skip
        refine lv_iconst (v := (-1)) hx hb dX3_setBuffer_48 (by decide) ?_
        exact x_iret B G (rfl) (rfl) dX3_setBuffer_49
  · exact False.elim (b2i_0.mp c_6 (nodeOK hn))
set_option maxHeartbeats 4000000 in
set_option maxRecDepth 100000 in
theorem c_X3_setBuffer_bad3 (l : Launch) {D : va_G} {sh : xS} {ad : Nat → Nat} {cI : ClassId} {tys : List (ClassId × FieldType)} (M : xMm sh ad cI tys) (V : xV) (n cnt : Nat) (y : Int32) (hn : n < 8) (h1 : 1 ≤ y ∧ y ≤ 8) (h : ¬ nI (cntP (mHas V n) cnt) ≤ y) (hcnt : V 17 17 = nI cnt) (hc40 : cnt ≤ 40) : xMi l yX3_setBuffer wsX3_setBuffer (rmK 2) D sh ad tys V [.ref (ad 17), .int (nI n), .int y] (-1) (xu V 17 20 3) := by
  refine xOfi (cc := cX3_setBuffer) (nL := 4) (ret := some .int) (own := RX3) (by decide) rfl rfl (Nat.le_of_ble_eq_true rfl) M.2.2 ?_
  intro p e s m args below meth c A ls B G hl
  have hx := B.1.1
  have hb := B.1.2.1
  have hin : ∀ w ∈ wsX30, w ∈ wsX3_setBuffer := by decide +kernel
  have hl : lv_has ls 4 [(0, .ref (ad 17)), (1, .int (nI n)), (2, .int y)] := hl
  refine lv_aload_n hx hb dX3_setBuffer_0 rfl (lv_at hl 0 rfl) ?_
  refine lv_aload_n hx hb dX3_setBuffer_1 rfl (lv_at hl 0 rfl) ?_
  refine lv_iload_n hx hb dX3_setBuffer_2 rfl (lv_at hl 1 rfl) ?_
  refine x_callVi (rest := [.ref (ad 17)]) B G (c_X3_isNode l M V (nI n)) (cwV 1 B.1.2.2.2.2 gX3_setBuffer_X3_isNode rfl rfl rfl (by decide +kernel) ⟨Nat.le_of_ble_eq_true rfl, Nat.le_of_ble_eq_true rfl⟩) (m_recv B G M) rfl hl.1 rfl (Nat.le_of_ble_eq_true rfl) ⟨Nat.zero_le _, Nat.zero_le _⟩ dX3_setBuffer_3 (fun H locs G => ?_)
  refine lv_if_ne (tgt := 13) hx hb dX3_setBuffer_6 (by decide) (fun c_6 => ?_) (fun c_6 => ?_)
  · skip
    refine lv_aload_n hx hb dX3_setBuffer_13 rfl (lv_at hl 0 rfl) ?_
    refine lv_iload_n hx hb dX3_setBuffer_14 rfl (lv_at hl 2 rfl) ?_
    refine lv_iconst (v := 1) hx hb dX3_setBuffer_15 (by decide) ?_
    refine lv_bipush (v := 8) hx hb dX3_setBuffer_16 (by decide) ?_
    refine x_callVi (rest := [.ref (ad 17)]) B G (c_X3_between l M V y 1 8) (cwV 3 B.1.2.2.2.2 gX3_setBuffer_X3_between rfl rfl rfl (by decide +kernel) ⟨Nat.le_of_ble_eq_true rfl, Nat.le_of_ble_eq_true rfl⟩) (m_recv B G M) rfl hl.1 rfl (Nat.le_of_ble_eq_true rfl) ⟨Nat.zero_le _, Nat.zero_le _⟩ dX3_setBuffer_18 (fun H locs G => ?_)
    refine lv_if_ne (tgt := 28) hx hb dX3_setBuffer_21 (by decide) (fun c_21 => ?_) (fun c_21 => ?_)
    · skip
      refine lv_aload_n hx hb dX3_setBuffer_28 rfl (lv_at hl 0 rfl) ?_
      refine lv_iload_n hx hb dX3_setBuffer_29 rfl (lv_at hl 1 rfl) ?_
      refine x_callVi (rest := [.ref (ad 17)]) B G (c_X3_load l M V n cnt (by omega) hcnt hc40) (cwV 1 B.1.2.2.2.2 gX3_setBuffer_X3_load rfl rfl rfl (by decide +kernel) ⟨Nat.le_of_ble_eq_true rfl, Nat.le_of_ble_eq_true rfl⟩) (m_recv B G M) rfl hl.1 rfl (Nat.le_of_ble_eq_true rfl) ⟨Nat.zero_le _, Nat.zero_le _⟩ dX3_setBuffer_30 (fun H locs G => ?_)
      refine lv_iload_n hx hb dX3_setBuffer_33 rfl (lv_at hl 2 rfl) ?_
      refine lv_icmp_le (tgt := 41) hx hb dX3_setBuffer_34 (by decide) (fun c_34 => ?_) (fun c_34 => ?_)
      · exact False.elim (h c_34)
      · skip
        refine lv_iconst (v := 3) hx hb dX3_setBuffer_37 (by decide) ?_
        refine lv_goto (tgt := 42) hx hb dX3_setBuffer_38 (by decide) ?_
        refine x_callVi (rest := []) B G (c_X3_holds l M V 3) (cwV 1 B.1.2.2.2.2 gX3_setBuffer_X3_holds rfl rfl rfl (by decide +kernel) ⟨Nat.le_of_ble_eq_true rfl, Nat.le_of_ble_eq_true rfl⟩) (m_recv B G M) rfl hl.1 rfl (Nat.le_of_ble_eq_true rfl) ⟨Nat.zero_le _, Nat.zero_le _⟩ dX3_setBuffer_42 (fun H locs G => ?_)
        refine lv_if_eq (tgt := 50) hx hb dX3_setBuffer_45 (by decide) (fun c_45 => ?_) (fun c_45 => ?_)
        · exact False.elim (absurd c_45 (by decide))
        · skip
          refine lv_iconst (v := (-1)) hx hb dX3_setBuffer_48 (by decide) ?_
          exact x_iret B G (rfl) (rfl) dX3_setBuffer_49
    · exact False.elim (b2i_0.mp c_21 (h1))
  · exact False.elim (b2i_0.mp c_6 (nodeOK hn))
set_option maxHeartbeats 4000000 in
set_option maxRecDepth 100000 in
theorem c_X3_setBuffer_ok (l : Launch) {D : va_G} {sh : xS} {ad : Nat → Nat} {cI : ClassId} {tys : List (ClassId × FieldType)} (M : xMm sh ad cI tys) (V : xV) (n cnt : Nat) (y : Int32) (hn : n < 8) (h1 : 1 ≤ y ∧ y ≤ 8) (h : nI (cntP (mHas V n) cnt) ≤ y) (hcnt : V 17 17 = nI cnt) (hc40 : cnt ≤ 40) : xMi l yX3_setBuffer wsX3_setBuffer (rmK 2) D sh ad tys V [.ref (ad 17), .int (nI n), .int y] (V 9 n) (xu (xu V 17 20 0) 9 n y) := by
  refine xOfi (cc := cX3_setBuffer) (nL := 4) (ret := some .int) (own := RX3) (by decide) rfl rfl (Nat.le_of_ble_eq_true rfl) M.2.2 ?_
  intro p e s m args below meth c A ls B G hl
  have hx := B.1.1
  have hb := B.1.2.1
  have hin : ∀ w ∈ wsX30, w ∈ wsX3_setBuffer := by decide +kernel
  have hl : lv_has ls 4 [(0, .ref (ad 17)), (1, .int (nI n)), (2, .int y)] := hl
  refine lv_aload_n hx hb dX3_setBuffer_0 rfl (lv_at hl 0 rfl) ?_
  refine lv_aload_n hx hb dX3_setBuffer_1 rfl (lv_at hl 0 rfl) ?_
  refine lv_iload_n hx hb dX3_setBuffer_2 rfl (lv_at hl 1 rfl) ?_
  refine x_callVi (rest := [.ref (ad 17)]) B G (c_X3_isNode l M V (nI n)) (cwV 1 B.1.2.2.2.2 gX3_setBuffer_X3_isNode rfl rfl rfl (by decide +kernel) ⟨Nat.le_of_ble_eq_true rfl, Nat.le_of_ble_eq_true rfl⟩) (m_recv B G M) rfl hl.1 rfl (Nat.le_of_ble_eq_true rfl) ⟨Nat.zero_le _, Nat.zero_le _⟩ dX3_setBuffer_3 (fun H locs G => ?_)
  refine lv_if_ne (tgt := 13) hx hb dX3_setBuffer_6 (by decide) (fun c_6 => ?_) (fun c_6 => ?_)
  · skip
    refine lv_aload_n hx hb dX3_setBuffer_13 rfl (lv_at hl 0 rfl) ?_
    refine lv_iload_n hx hb dX3_setBuffer_14 rfl (lv_at hl 2 rfl) ?_
    refine lv_iconst (v := 1) hx hb dX3_setBuffer_15 (by decide) ?_
    refine lv_bipush (v := 8) hx hb dX3_setBuffer_16 (by decide) ?_
    refine x_callVi (rest := [.ref (ad 17)]) B G (c_X3_between l M V y 1 8) (cwV 3 B.1.2.2.2.2 gX3_setBuffer_X3_between rfl rfl rfl (by decide +kernel) ⟨Nat.le_of_ble_eq_true rfl, Nat.le_of_ble_eq_true rfl⟩) (m_recv B G M) rfl hl.1 rfl (Nat.le_of_ble_eq_true rfl) ⟨Nat.zero_le _, Nat.zero_le _⟩ dX3_setBuffer_18 (fun H locs G => ?_)
    refine lv_if_ne (tgt := 28) hx hb dX3_setBuffer_21 (by decide) (fun c_21 => ?_) (fun c_21 => ?_)
    · skip
      refine lv_aload_n hx hb dX3_setBuffer_28 rfl (lv_at hl 0 rfl) ?_
      refine lv_iload_n hx hb dX3_setBuffer_29 rfl (lv_at hl 1 rfl) ?_
      refine x_callVi (rest := [.ref (ad 17)]) B G (c_X3_load l M V n cnt (by omega) hcnt hc40) (cwV 1 B.1.2.2.2.2 gX3_setBuffer_X3_load rfl rfl rfl (by decide +kernel) ⟨Nat.le_of_ble_eq_true rfl, Nat.le_of_ble_eq_true rfl⟩) (m_recv B G M) rfl hl.1 rfl (Nat.le_of_ble_eq_true rfl) ⟨Nat.zero_le _, Nat.zero_le _⟩ dX3_setBuffer_30 (fun H locs G => ?_)
      refine lv_iload_n hx hb dX3_setBuffer_33 rfl (lv_at hl 2 rfl) ?_
      refine lv_icmp_le (tgt := 41) hx hb dX3_setBuffer_34 (by decide) (fun c_34 => ?_) (fun c_34 => ?_)
      · skip
        refine lv_iconst (v := 0) hx hb dX3_setBuffer_41 (by decide) ?_
        refine x_callVi (rest := []) B G (c_X3_holds l M V 0) (cwV 1 B.1.2.2.2.2 gX3_setBuffer_X3_holds rfl rfl rfl (by decide +kernel) ⟨Nat.le_of_ble_eq_true rfl, Nat.le_of_ble_eq_true rfl⟩) (m_recv B G M) rfl hl.1 rfl (Nat.le_of_ble_eq_true rfl) ⟨Nat.zero_le _, Nat.zero_le _⟩ dX3_setBuffer_42 (fun H locs G => ?_)
        refine lv_if_eq (tgt := 50) hx hb dX3_setBuffer_45 (by decide) (fun c_45 => ?_) (fun c_45 => ?_)
        · skip
          refine lv_aload_n hx hb dX3_setBuffer_50 rfl (lv_at hl 0 rfl) ?_
          refine m_getA B G M hin 9 (by decide) (by decide +kernel) dX3_setBuffer_51 ?_
          refine lv_iload_n hx hb dX3_setBuffer_54 rfl (lv_at hl 1 rfl) ?_
          refine m_ald B G M 9 (by decide) n (show n < 8 by omega) rfl dX3_setBuffer_55 ?_
          refine lv_istore_n (lv' := [(3, .int ((xu V 17 20 0) 9 n)), (0, .ref (ad 17)), (1, .int (nI n)), (2, .int y)]) hx hb dX3_setBuffer_56 rfl hl (by decide) rfl (fun ls hl => ?_)
          refine lv_aload_n hx hb dX3_setBuffer_57 rfl (lv_at hl 1 rfl) ?_
          refine m_getA B G M hin 9 (by decide) (by decide +kernel) dX3_setBuffer_58 ?_
          refine lv_iload_n hx hb dX3_setBuffer_61 rfl (lv_at hl 2 rfl) ?_
          refine lv_iload_n hx hb dX3_setBuffer_62 rfl (lv_at hl 3 rfl) ?_
          refine m_ast B G M 9 (by decide) n (show n < 8 by omega) rfl dX3_setBuffer_63 (fun H locs G => ?_)
          refine lv_iload_n hx hb dX3_setBuffer_64 rfl (lv_at hl 0 rfl) ?_
          exact x_iret B G (rfl) (rfl) dX3_setBuffer_65
        · exact False.elim (c_45 (by decide))
      · exact False.elim (c_34 h)
    · exact False.elim (b2i_0.mp c_21 (h1))
  · exact False.elim (b2i_0.mp c_6 (nodeOK hn))
set_option maxHeartbeats 4000000 in
set_option maxRecDepth 100000 in
theorem c_X3_addContact_bad1 (l : Launch) {D : va_G} {sh : xS} {ad : Nat → Nat} {cI : ClassId} {tys : List (ClassId × FieldType)} (M : xMm sh ad cI tys) (V : xV) (x y f g : Int32) (h : ¬ ((0 ≤ x ∧ x ≤ 7) ∧ (0 ≤ y ∧ y ≤ 7))) : xMi l yX3_addContact wsX3_addContact (rmK 2) D sh ad tys V [.ref (ad 17), .int x, .int y, .int f, .int g] (-1) (xu V 17 20 1) := by
  refine xOfi (cc := cX3_addContact) (nL := 6) (ret := some .int) (own := RX3) (by decide) rfl rfl (Nat.le_of_ble_eq_true rfl) M.2.2 ?_
  intro p e s m args below meth c A ls B G hl
  have hx := B.1.1
  have hb := B.1.2.1
  have hin : ∀ w ∈ wsX30, w ∈ wsX3_addContact := by decide +kernel
  have hl : lv_has ls 6 [(0, .ref (ad 17)), (1, .int x), (2, .int y), (3, .int f), (4, .int g)] := hl
  refine lv_iload_n hx hb dX3_addContact_0 rfl (lv_at hl 1 rfl) ?_
  refine lv_iload_n hx hb dX3_addContact_1 rfl (lv_at hl 2 rfl) ?_
  refine lv_icmp_eq (tgt := 32) hx hb dX3_addContact_2 (by decide) (fun c_2 => ?_) (fun c_2 => ?_)
  · skip
    refine lv_iconst (v := 0) hx hb dX3_addContact_32 (by decide) ?_
    refine lv_istore (lv' := [(5, .int 0), (0, .ref (ad 17)), (1, .int x), (2, .int y), (3, .int f), (4, .int g)]) hx hb dX3_addContact_33 hl (by decide) rfl (fun ls hl => ?_)
    refine lv_aload_n hx hb dX3_addContact_35 rfl (lv_at hl 1 rfl) ?_
    refine lv_aload_n hx hb dX3_addContact_36 rfl (lv_at hl 1 rfl) ?_
    refine lv_iload_n hx hb dX3_addContact_37 rfl (lv_at hl 2 rfl) ?_
    refine x_callVi (rest := [.ref (ad 17)]) B G (c_X3_isNode l M V x) (cwV 1 B.1.2.2.2.2 gX3_addContact_X3_isNode rfl rfl rfl (by decide +kernel) ⟨Nat.le_of_ble_eq_true rfl, Nat.le_of_ble_eq_true rfl⟩) (m_recv B G M) rfl hl.1 rfl (Nat.le_of_ble_eq_true rfl) ⟨Nat.zero_le _, Nat.zero_le _⟩ dX3_addContact_38 (fun H locs G => ?_)
    refine lv_if_eq (tgt := 52) hx hb dX3_addContact_41 (by decide) (fun c_41 => ?_) (fun c_41 => ?_)
    · skip
      refine lv_iconst (v := 1) hx hb dX3_addContact_52 (by decide) ?_
      refine lv_goto (tgt := 79) hx hb dX3_addContact_53 (by decide) ?_
      refine x_callVi (rest := []) B G (c_X3_holds l M V 1) (cwV 1 B.1.2.2.2.2 gX3_addContact_X3_holds rfl rfl rfl (by decide +kernel) ⟨Nat.le_of_ble_eq_true rfl, Nat.le_of_ble_eq_true rfl⟩) (m_recv B G M) rfl hl.1 rfl (Nat.le_of_ble_eq_true rfl) ⟨Nat.zero_le _, Nat.zero_le _⟩ dX3_addContact_79 (fun H locs G => ?_)
      refine lv_if_eq (tgt := 87) hx hb dX3_addContact_82 (by decide) (fun c_82 => ?_) (fun c_82 => ?_)
      · exact False.elim (absurd c_82 (by decide))
      · skip
        refine lv_iconst (v := (-1)) hx hb dX3_addContact_85 (by decide) ?_
        exact x_iret B G (rfl) (rfl) dX3_addContact_86
    · skip
      refine lv_aload_n hx hb dX3_addContact_44 rfl (lv_at hl 1 rfl) ?_
      refine lv_iload_n hx hb dX3_addContact_45 rfl (lv_at hl 3 rfl) ?_
      refine x_callVi (rest := [.ref (ad 17)]) B G (c_X3_isNode l M V y) (cwV 1 B.1.2.2.2.2 gX3_addContact_X3_isNode rfl rfl rfl (by decide +kernel) ⟨Nat.le_of_ble_eq_true rfl, Nat.le_of_ble_eq_true rfl⟩) (m_recv B G M) rfl hl.1 rfl (Nat.le_of_ble_eq_true rfl) ⟨Nat.zero_le _, Nat.zero_le _⟩ dX3_addContact_46 (fun H locs G => ?_)
      refine lv_if_ne (tgt := 56) hx hb dX3_addContact_49 (by decide) (fun c_49 => ?_) (fun c_49 => ?_)
      · skip
        exact absurd ⟨b2i_1 c_41, b2i_1 c_49⟩ h
      · skip
        refine lv_iconst (v := 1) hx hb dX3_addContact_52 (by decide) ?_
        refine lv_goto (tgt := 79) hx hb dX3_addContact_53 (by decide) ?_
        refine x_callVi (rest := []) B G (c_X3_holds l M V 1) (cwV 1 B.1.2.2.2.2 gX3_addContact_X3_holds rfl rfl rfl (by decide +kernel) ⟨Nat.le_of_ble_eq_true rfl, Nat.le_of_ble_eq_true rfl⟩) (m_recv B G M) rfl hl.1 rfl (Nat.le_of_ble_eq_true rfl) ⟨Nat.zero_le _, Nat.zero_le _⟩ dX3_addContact_79 (fun H locs G => ?_)
        refine lv_if_eq (tgt := 87) hx hb dX3_addContact_82 (by decide) (fun c_82 => ?_) (fun c_82 => ?_)
        · exact False.elim (absurd c_82 (by decide))
        · skip
          refine lv_iconst (v := (-1)) hx hb dX3_addContact_85 (by decide) ?_
          exact x_iret B G (rfl) (rfl) dX3_addContact_86
  · skip
    refine lv_aload_n hx hb dX3_addContact_5 rfl (lv_at hl 0 rfl) ?_
    refine lv_iload_n hx hb dX3_addContact_6 rfl (lv_at hl 3 rfl) ?_
    refine lv_iconst (v := 0) hx hb dX3_addContact_7 (by decide) ?_
    refine lv_ldc (v := 100000) hx hb B.1.2.2.2.1 (B.1.2.2.2.2 (Cond.constant RX3 125 (100000)) (by decide +kernel)) dX3_addContact_8 ?_
    refine x_callVi (rest := []) B G (c_X3_between l M V f 0 100000) (cwV 3 B.1.2.2.2.2 gX3_addContact_X3_between rfl rfl rfl (by decide +kernel) ⟨Nat.le_of_ble_eq_true rfl, Nat.le_of_ble_eq_true rfl⟩) (m_recv B G M) rfl hl.1 rfl (Nat.le_of_ble_eq_true rfl) ⟨Nat.zero_le _, Nat.zero_le _⟩ dX3_addContact_10 (fun H locs G => ?_)
    refine lv_if_eq (tgt := 32) hx hb dX3_addContact_13 (by decide) (fun c_13 => ?_) (fun c_13 => ?_)
    · skip
      refine lv_iconst (v := 0) hx hb dX3_addContact_32 (by decide) ?_
      refine lv_istore (lv' := [(5, .int 0), (0, .ref (ad 17)), (1, .int x), (2, .int y), (3, .int f), (4, .int g)]) hx hb dX3_addContact_33 hl (by decide) rfl (fun ls hl => ?_)
      refine lv_aload_n hx hb dX3_addContact_35 rfl (lv_at hl 1 rfl) ?_
      refine lv_aload_n hx hb dX3_addContact_36 rfl (lv_at hl 1 rfl) ?_
      refine lv_iload_n hx hb dX3_addContact_37 rfl (lv_at hl 2 rfl) ?_
      refine x_callVi (rest := [.ref (ad 17)]) B G (c_X3_isNode l M V x) (cwV 1 B.1.2.2.2.2 gX3_addContact_X3_isNode rfl rfl rfl (by decide +kernel) ⟨Nat.le_of_ble_eq_true rfl, Nat.le_of_ble_eq_true rfl⟩) (m_recv B G M) rfl hl.1 rfl (Nat.le_of_ble_eq_true rfl) ⟨Nat.zero_le _, Nat.zero_le _⟩ dX3_addContact_38 (fun H locs G => ?_)
      refine lv_if_eq (tgt := 52) hx hb dX3_addContact_41 (by decide) (fun c_41 => ?_) (fun c_41 => ?_)
      · skip
        refine lv_iconst (v := 1) hx hb dX3_addContact_52 (by decide) ?_
        refine lv_goto (tgt := 79) hx hb dX3_addContact_53 (by decide) ?_
        refine x_callVi (rest := []) B G (c_X3_holds l M V 1) (cwV 1 B.1.2.2.2.2 gX3_addContact_X3_holds rfl rfl rfl (by decide +kernel) ⟨Nat.le_of_ble_eq_true rfl, Nat.le_of_ble_eq_true rfl⟩) (m_recv B G M) rfl hl.1 rfl (Nat.le_of_ble_eq_true rfl) ⟨Nat.zero_le _, Nat.zero_le _⟩ dX3_addContact_79 (fun H locs G => ?_)
        refine lv_if_eq (tgt := 87) hx hb dX3_addContact_82 (by decide) (fun c_82 => ?_) (fun c_82 => ?_)
        · exact False.elim (absurd c_82 (by decide))
        · skip
          refine lv_iconst (v := (-1)) hx hb dX3_addContact_85 (by decide) ?_
          exact x_iret B G (rfl) (rfl) dX3_addContact_86
      · skip
        refine lv_aload_n hx hb dX3_addContact_44 rfl (lv_at hl 1 rfl) ?_
        refine lv_iload_n hx hb dX3_addContact_45 rfl (lv_at hl 3 rfl) ?_
        refine x_callVi (rest := [.ref (ad 17)]) B G (c_X3_isNode l M V y) (cwV 1 B.1.2.2.2.2 gX3_addContact_X3_isNode rfl rfl rfl (by decide +kernel) ⟨Nat.le_of_ble_eq_true rfl, Nat.le_of_ble_eq_true rfl⟩) (m_recv B G M) rfl hl.1 rfl (Nat.le_of_ble_eq_true rfl) ⟨Nat.zero_le _, Nat.zero_le _⟩ dX3_addContact_46 (fun H locs G => ?_)
        refine lv_if_ne (tgt := 56) hx hb dX3_addContact_49 (by decide) (fun c_49 => ?_) (fun c_49 => ?_)
        · skip
          exact absurd ⟨b2i_1 c_41, b2i_1 c_49⟩ h
        · skip
          refine lv_iconst (v := 1) hx hb dX3_addContact_52 (by decide) ?_
          refine lv_goto (tgt := 79) hx hb dX3_addContact_53 (by decide) ?_
          refine x_callVi (rest := []) B G (c_X3_holds l M V 1) (cwV 1 B.1.2.2.2.2 gX3_addContact_X3_holds rfl rfl rfl (by decide +kernel) ⟨Nat.le_of_ble_eq_true rfl, Nat.le_of_ble_eq_true rfl⟩) (m_recv B G M) rfl hl.1 rfl (Nat.le_of_ble_eq_true rfl) ⟨Nat.zero_le _, Nat.zero_le _⟩ dX3_addContact_79 (fun H locs G => ?_)
          refine lv_if_eq (tgt := 87) hx hb dX3_addContact_82 (by decide) (fun c_82 => ?_) (fun c_82 => ?_)
          · exact False.elim (absurd c_82 (by decide))
          · skip
            refine lv_iconst (v := (-1)) hx hb dX3_addContact_85 (by decide) ?_
            exact x_iret B G (rfl) (rfl) dX3_addContact_86
    · skip
      refine lv_aload_n hx hb dX3_addContact_16 rfl (lv_at hl 0 rfl) ?_
      refine lv_iload hx hb dX3_addContact_17 (lv_at hl 4 rfl) ?_
      refine lv_iload_n hx hb dX3_addContact_19 rfl (lv_at hl 3 rfl) ?_
      refine lv_ldc (v := 100000) hx hb B.1.2.2.2.1 (B.1.2.2.2.2 (Cond.constant RX3 125 (100000)) (by decide +kernel)) dX3_addContact_20 ?_
      refine x_callVi (rest := []) B G (c_X3_between l M V g f 100000) (cwV 3 B.1.2.2.2.2 gX3_addContact_X3_between rfl rfl rfl (by decide +kernel) ⟨Nat.le_of_ble_eq_true rfl, Nat.le_of_ble_eq_true rfl⟩) (m_recv B G M) rfl hl.1 rfl (Nat.le_of_ble_eq_true rfl) ⟨Nat.zero_le _, Nat.zero_le _⟩ dX3_addContact_22 (fun H locs G => ?_)
      refine lv_if_eq (tgt := 32) hx hb dX3_addContact_25 (by decide) (fun c_25 => ?_) (fun c_25 => ?_)
      · skip
        refine lv_iconst (v := 0) hx hb dX3_addContact_32 (by decide) ?_
        refine lv_istore (lv' := [(5, .int 0), (0, .ref (ad 17)), (1, .int x), (2, .int y), (3, .int f), (4, .int g)]) hx hb dX3_addContact_33 hl (by decide) rfl (fun ls hl => ?_)
        refine lv_aload_n hx hb dX3_addContact_35 rfl (lv_at hl 1 rfl) ?_
        refine lv_aload_n hx hb dX3_addContact_36 rfl (lv_at hl 1 rfl) ?_
        refine lv_iload_n hx hb dX3_addContact_37 rfl (lv_at hl 2 rfl) ?_
        refine x_callVi (rest := [.ref (ad 17)]) B G (c_X3_isNode l M V x) (cwV 1 B.1.2.2.2.2 gX3_addContact_X3_isNode rfl rfl rfl (by decide +kernel) ⟨Nat.le_of_ble_eq_true rfl, Nat.le_of_ble_eq_true rfl⟩) (m_recv B G M) rfl hl.1 rfl (Nat.le_of_ble_eq_true rfl) ⟨Nat.zero_le _, Nat.zero_le _⟩ dX3_addContact_38 (fun H locs G => ?_)
        refine lv_if_eq (tgt := 52) hx hb dX3_addContact_41 (by decide) (fun c_41 => ?_) (fun c_41 => ?_)
        · skip
          refine lv_iconst (v := 1) hx hb dX3_addContact_52 (by decide) ?_
          refine lv_goto (tgt := 79) hx hb dX3_addContact_53 (by decide) ?_
          refine x_callVi (rest := []) B G (c_X3_holds l M V 1) (cwV 1 B.1.2.2.2.2 gX3_addContact_X3_holds rfl rfl rfl (by decide +kernel) ⟨Nat.le_of_ble_eq_true rfl, Nat.le_of_ble_eq_true rfl⟩) (m_recv B G M) rfl hl.1 rfl (Nat.le_of_ble_eq_true rfl) ⟨Nat.zero_le _, Nat.zero_le _⟩ dX3_addContact_79 (fun H locs G => ?_)
          refine lv_if_eq (tgt := 87) hx hb dX3_addContact_82 (by decide) (fun c_82 => ?_) (fun c_82 => ?_)
          · exact False.elim (absurd c_82 (by decide))
          · skip
            refine lv_iconst (v := (-1)) hx hb dX3_addContact_85 (by decide) ?_
            exact x_iret B G (rfl) (rfl) dX3_addContact_86
        · skip
          refine lv_aload_n hx hb dX3_addContact_44 rfl (lv_at hl 1 rfl) ?_
          refine lv_iload_n hx hb dX3_addContact_45 rfl (lv_at hl 3 rfl) ?_
          refine x_callVi (rest := [.ref (ad 17)]) B G (c_X3_isNode l M V y) (cwV 1 B.1.2.2.2.2 gX3_addContact_X3_isNode rfl rfl rfl (by decide +kernel) ⟨Nat.le_of_ble_eq_true rfl, Nat.le_of_ble_eq_true rfl⟩) (m_recv B G M) rfl hl.1 rfl (Nat.le_of_ble_eq_true rfl) ⟨Nat.zero_le _, Nat.zero_le _⟩ dX3_addContact_46 (fun H locs G => ?_)
          refine lv_if_ne (tgt := 56) hx hb dX3_addContact_49 (by decide) (fun c_49 => ?_) (fun c_49 => ?_)
          · skip
            exact absurd ⟨b2i_1 c_41, b2i_1 c_49⟩ h
          · skip
            refine lv_iconst (v := 1) hx hb dX3_addContact_52 (by decide) ?_
            refine lv_goto (tgt := 79) hx hb dX3_addContact_53 (by decide) ?_
            refine x_callVi (rest := []) B G (c_X3_holds l M V 1) (cwV 1 B.1.2.2.2.2 gX3_addContact_X3_holds rfl rfl rfl (by decide +kernel) ⟨Nat.le_of_ble_eq_true rfl, Nat.le_of_ble_eq_true rfl⟩) (m_recv B G M) rfl hl.1 rfl (Nat.le_of_ble_eq_true rfl) ⟨Nat.zero_le _, Nat.zero_le _⟩ dX3_addContact_79 (fun H locs G => ?_)
            refine lv_if_eq (tgt := 87) hx hb dX3_addContact_82 (by decide) (fun c_82 => ?_) (fun c_82 => ?_)
            · exact False.elim (absurd c_82 (by decide))
            · skip
              refine lv_iconst (v := (-1)) hx hb dX3_addContact_85 (by decide) ?_
              exact x_iret B G (rfl) (rfl) dX3_addContact_86
      · skip
        refine lv_iconst (v := 1) hx hb dX3_addContact_28 (by decide) ?_
        refine lv_goto (tgt := 33) hx hb dX3_addContact_29 (by decide) ?_
        refine lv_istore (lv' := [(5, .int 1), (0, .ref (ad 17)), (1, .int x), (2, .int y), (3, .int f), (4, .int g)]) hx hb dX3_addContact_33 hl (by decide) rfl (fun ls hl => ?_)
        refine lv_aload_n hx hb dX3_addContact_35 rfl (lv_at hl 1 rfl) ?_
        refine lv_aload_n hx hb dX3_addContact_36 rfl (lv_at hl 1 rfl) ?_
        refine lv_iload_n hx hb dX3_addContact_37 rfl (lv_at hl 2 rfl) ?_
        refine x_callVi (rest := [.ref (ad 17)]) B G (c_X3_isNode l M V x) (cwV 1 B.1.2.2.2.2 gX3_addContact_X3_isNode rfl rfl rfl (by decide +kernel) ⟨Nat.le_of_ble_eq_true rfl, Nat.le_of_ble_eq_true rfl⟩) (m_recv B G M) rfl hl.1 rfl (Nat.le_of_ble_eq_true rfl) ⟨Nat.zero_le _, Nat.zero_le _⟩ dX3_addContact_38 (fun H locs G => ?_)
        refine lv_if_eq (tgt := 52) hx hb dX3_addContact_41 (by decide) (fun c_41 => ?_) (fun c_41 => ?_)
        · skip
          refine lv_iconst (v := 1) hx hb dX3_addContact_52 (by decide) ?_
          refine lv_goto (tgt := 79) hx hb dX3_addContact_53 (by decide) ?_
          refine x_callVi (rest := []) B G (c_X3_holds l M V 1) (cwV 1 B.1.2.2.2.2 gX3_addContact_X3_holds rfl rfl rfl (by decide +kernel) ⟨Nat.le_of_ble_eq_true rfl, Nat.le_of_ble_eq_true rfl⟩) (m_recv B G M) rfl hl.1 rfl (Nat.le_of_ble_eq_true rfl) ⟨Nat.zero_le _, Nat.zero_le _⟩ dX3_addContact_79 (fun H locs G => ?_)
          refine lv_if_eq (tgt := 87) hx hb dX3_addContact_82 (by decide) (fun c_82 => ?_) (fun c_82 => ?_)
          · exact False.elim (absurd c_82 (by decide))
          · skip
            refine lv_iconst (v := (-1)) hx hb dX3_addContact_85 (by decide) ?_
            exact x_iret B G (rfl) (rfl) dX3_addContact_86
        · skip
          refine lv_aload_n hx hb dX3_addContact_44 rfl (lv_at hl 1 rfl) ?_
          refine lv_iload_n hx hb dX3_addContact_45 rfl (lv_at hl 3 rfl) ?_
          refine x_callVi (rest := [.ref (ad 17)]) B G (c_X3_isNode l M V y) (cwV 1 B.1.2.2.2.2 gX3_addContact_X3_isNode rfl rfl rfl (by decide +kernel) ⟨Nat.le_of_ble_eq_true rfl, Nat.le_of_ble_eq_true rfl⟩) (m_recv B G M) rfl hl.1 rfl (Nat.le_of_ble_eq_true rfl) ⟨Nat.zero_le _, Nat.zero_le _⟩ dX3_addContact_46 (fun H locs G => ?_)
          refine lv_if_ne (tgt := 56) hx hb dX3_addContact_49 (by decide) (fun c_49 => ?_) (fun c_49 => ?_)
          · skip
            exact absurd ⟨b2i_1 c_41, b2i_1 c_49⟩ h
          · skip
            refine lv_iconst (v := 1) hx hb dX3_addContact_52 (by decide) ?_
            refine lv_goto (tgt := 79) hx hb dX3_addContact_53 (by decide) ?_
            refine x_callVi (rest := []) B G (c_X3_holds l M V 1) (cwV 1 B.1.2.2.2.2 gX3_addContact_X3_holds rfl rfl rfl (by decide +kernel) ⟨Nat.le_of_ble_eq_true rfl, Nat.le_of_ble_eq_true rfl⟩) (m_recv B G M) rfl hl.1 rfl (Nat.le_of_ble_eq_true rfl) ⟨Nat.zero_le _, Nat.zero_le _⟩ dX3_addContact_79 (fun H locs G => ?_)
            refine lv_if_eq (tgt := 87) hx hb dX3_addContact_82 (by decide) (fun c_82 => ?_) (fun c_82 => ?_)
            · exact False.elim (absurd c_82 (by decide))
            · skip
              refine lv_iconst (v := (-1)) hx hb dX3_addContact_85 (by decide) ?_
              exact x_iret B G (rfl) (rfl) dX3_addContact_86
set_option maxHeartbeats 4000000 in
set_option maxRecDepth 100000 in
theorem c_X3_addContact_bad2 (l : Launch) {D : va_G} {sh : xS} {ad : Nat → Nat} {cI : ClassId} {tys : List (ClassId × FieldType)} (M : xMm sh ad cI tys) (V : xV) (x y f g : Int32) (hx7 : 0 ≤ x ∧ x ≤ 7) (hy7 : 0 ≤ y ∧ y ≤ 7) (h : ¬ (x ≠ y ∧ (0 ≤ f ∧ f ≤ 100000) ∧ (f ≤ g ∧ g ≤ 100000))) : xMi l yX3_addContact wsX3_addContact (rmK 2) D sh ad tys V [.ref (ad 17), .int x, .int y, .int f, .int g] (-1) (xu V 17 20 2) := by
  refine xOfi (cc := cX3_addContact) (nL := 6) (ret := some .int) (own := RX3) (by decide) rfl rfl (Nat.le_of_ble_eq_true rfl) M.2.2 ?_
  intro p e s m args below meth c A ls B G hl
  have hx := B.1.1
  have hb := B.1.2.1
  have hin : ∀ w ∈ wsX30, w ∈ wsX3_addContact := by decide +kernel
  have hl : lv_has ls 6 [(0, .ref (ad 17)), (1, .int x), (2, .int y), (3, .int f), (4, .int g)] := hl
  refine lv_iload_n hx hb dX3_addContact_0 rfl (lv_at hl 1 rfl) ?_
  refine lv_iload_n hx hb dX3_addContact_1 rfl (lv_at hl 2 rfl) ?_
  refine lv_icmp_eq (tgt := 32) hx hb dX3_addContact_2 (by decide) (fun c_2 => ?_) (fun c_2 => ?_)
  · skip
    refine lv_iconst (v := 0) hx hb dX3_addContact_32 (by decide) ?_
    refine lv_istore (lv' := [(5, .int 0), (0, .ref (ad 17)), (1, .int x), (2, .int y), (3, .int f), (4, .int g)]) hx hb dX3_addContact_33 hl (by decide) rfl (fun ls hl => ?_)
    refine lv_aload_n hx hb dX3_addContact_35 rfl (lv_at hl 1 rfl) ?_
    refine lv_aload_n hx hb dX3_addContact_36 rfl (lv_at hl 1 rfl) ?_
    refine lv_iload_n hx hb dX3_addContact_37 rfl (lv_at hl 2 rfl) ?_
    refine x_callVi (rest := [.ref (ad 17)]) B G (c_X3_isNode l M V x) (cwV 1 B.1.2.2.2.2 gX3_addContact_X3_isNode rfl rfl rfl (by decide +kernel) ⟨Nat.le_of_ble_eq_true rfl, Nat.le_of_ble_eq_true rfl⟩) (m_recv B G M) rfl hl.1 rfl (Nat.le_of_ble_eq_true rfl) ⟨Nat.zero_le _, Nat.zero_le _⟩ dX3_addContact_38 (fun H locs G => ?_)
    refine lv_if_eq (tgt := 52) hx hb dX3_addContact_41 (by decide) (fun c_41 => ?_) (fun c_41 => ?_)
    · exact False.elim (b2i_0.mp c_41 (hx7))
    · skip
      refine lv_aload_n hx hb dX3_addContact_44 rfl (lv_at hl 1 rfl) ?_
      refine lv_iload_n hx hb dX3_addContact_45 rfl (lv_at hl 3 rfl) ?_
      refine x_callVi (rest := [.ref (ad 17)]) B G (c_X3_isNode l M V y) (cwV 1 B.1.2.2.2.2 gX3_addContact_X3_isNode rfl rfl rfl (by decide +kernel) ⟨Nat.le_of_ble_eq_true rfl, Nat.le_of_ble_eq_true rfl⟩) (m_recv B G M) rfl hl.1 rfl (Nat.le_of_ble_eq_true rfl) ⟨Nat.zero_le _, Nat.zero_le _⟩ dX3_addContact_46 (fun H locs G => ?_)
      refine lv_if_ne (tgt := 56) hx hb dX3_addContact_49 (by decide) (fun c_49 => ?_) (fun c_49 => ?_)
      · skip
        refine lv_iload hx hb dX3_addContact_56 (lv_at hl 0 rfl) ?_
        refine lv_if_ne (tgt := 65) hx hb dX3_addContact_58 (by decide) (fun c_58 => ?_) (fun c_58 => ?_)
        · exact False.elim (c_58 (by decide))
        · skip
          refine lv_iconst (v := 2) hx hb dX3_addContact_61 (by decide) ?_
          refine lv_goto (tgt := 79) hx hb dX3_addContact_62 (by decide) ?_
          refine x_callVi (rest := []) B G (c_X3_holds l M V 2) (cwV 1 B.1.2.2.2.2 gX3_addContact_X3_holds rfl rfl rfl (by decide +kernel) ⟨Nat.le_of_ble_eq_true rfl, Nat.le_of_ble_eq_true rfl⟩) (m_recv B G M) rfl hl.1 rfl (Nat.le_of_ble_eq_true rfl) ⟨Nat.zero_le _, Nat.zero_le _⟩ dX3_addContact_79 (fun H locs G => ?_)
          refine lv_if_eq (tgt := 87) hx hb dX3_addContact_82 (by decide) (fun c_82 => ?_) (fun c_82 => ?_)
          · exact False.elim (absurd c_82 (by decide))
          · skip
            refine lv_iconst (v := (-1)) hx hb dX3_addContact_85 (by decide) ?_
            exact x_iret B G (rfl) (rfl) dX3_addContact_86
      · exact False.elim (b2i_0.mp c_49 (hy7))
  · skip
    refine lv_aload_n hx hb dX3_addContact_5 rfl (lv_at hl 0 rfl) ?_
    refine lv_iload_n hx hb dX3_addContact_6 rfl (lv_at hl 3 rfl) ?_
    refine lv_iconst (v := 0) hx hb dX3_addContact_7 (by decide) ?_
    refine lv_ldc (v := 100000) hx hb B.1.2.2.2.1 (B.1.2.2.2.2 (Cond.constant RX3 125 (100000)) (by decide +kernel)) dX3_addContact_8 ?_
    refine x_callVi (rest := []) B G (c_X3_between l M V f 0 100000) (cwV 3 B.1.2.2.2.2 gX3_addContact_X3_between rfl rfl rfl (by decide +kernel) ⟨Nat.le_of_ble_eq_true rfl, Nat.le_of_ble_eq_true rfl⟩) (m_recv B G M) rfl hl.1 rfl (Nat.le_of_ble_eq_true rfl) ⟨Nat.zero_le _, Nat.zero_le _⟩ dX3_addContact_10 (fun H locs G => ?_)
    refine lv_if_eq (tgt := 32) hx hb dX3_addContact_13 (by decide) (fun c_13 => ?_) (fun c_13 => ?_)
    · skip
      refine lv_iconst (v := 0) hx hb dX3_addContact_32 (by decide) ?_
      refine lv_istore (lv' := [(5, .int 0), (0, .ref (ad 17)), (1, .int x), (2, .int y), (3, .int f), (4, .int g)]) hx hb dX3_addContact_33 hl (by decide) rfl (fun ls hl => ?_)
      refine lv_aload_n hx hb dX3_addContact_35 rfl (lv_at hl 1 rfl) ?_
      refine lv_aload_n hx hb dX3_addContact_36 rfl (lv_at hl 1 rfl) ?_
      refine lv_iload_n hx hb dX3_addContact_37 rfl (lv_at hl 2 rfl) ?_
      refine x_callVi (rest := [.ref (ad 17)]) B G (c_X3_isNode l M V x) (cwV 1 B.1.2.2.2.2 gX3_addContact_X3_isNode rfl rfl rfl (by decide +kernel) ⟨Nat.le_of_ble_eq_true rfl, Nat.le_of_ble_eq_true rfl⟩) (m_recv B G M) rfl hl.1 rfl (Nat.le_of_ble_eq_true rfl) ⟨Nat.zero_le _, Nat.zero_le _⟩ dX3_addContact_38 (fun H locs G => ?_)
      refine lv_if_eq (tgt := 52) hx hb dX3_addContact_41 (by decide) (fun c_41 => ?_) (fun c_41 => ?_)
      · exact False.elim (b2i_0.mp c_41 (hx7))
      · skip
        refine lv_aload_n hx hb dX3_addContact_44 rfl (lv_at hl 1 rfl) ?_
        refine lv_iload_n hx hb dX3_addContact_45 rfl (lv_at hl 3 rfl) ?_
        refine x_callVi (rest := [.ref (ad 17)]) B G (c_X3_isNode l M V y) (cwV 1 B.1.2.2.2.2 gX3_addContact_X3_isNode rfl rfl rfl (by decide +kernel) ⟨Nat.le_of_ble_eq_true rfl, Nat.le_of_ble_eq_true rfl⟩) (m_recv B G M) rfl hl.1 rfl (Nat.le_of_ble_eq_true rfl) ⟨Nat.zero_le _, Nat.zero_le _⟩ dX3_addContact_46 (fun H locs G => ?_)
        refine lv_if_ne (tgt := 56) hx hb dX3_addContact_49 (by decide) (fun c_49 => ?_) (fun c_49 => ?_)
        · skip
          refine lv_iload hx hb dX3_addContact_56 (lv_at hl 0 rfl) ?_
          refine lv_if_ne (tgt := 65) hx hb dX3_addContact_58 (by decide) (fun c_58 => ?_) (fun c_58 => ?_)
          · exact False.elim (c_58 (by decide))
          · skip
            refine lv_iconst (v := 2) hx hb dX3_addContact_61 (by decide) ?_
            refine lv_goto (tgt := 79) hx hb dX3_addContact_62 (by decide) ?_
            refine x_callVi (rest := []) B G (c_X3_holds l M V 2) (cwV 1 B.1.2.2.2.2 gX3_addContact_X3_holds rfl rfl rfl (by decide +kernel) ⟨Nat.le_of_ble_eq_true rfl, Nat.le_of_ble_eq_true rfl⟩) (m_recv B G M) rfl hl.1 rfl (Nat.le_of_ble_eq_true rfl) ⟨Nat.zero_le _, Nat.zero_le _⟩ dX3_addContact_79 (fun H locs G => ?_)
            refine lv_if_eq (tgt := 87) hx hb dX3_addContact_82 (by decide) (fun c_82 => ?_) (fun c_82 => ?_)
            · exact False.elim (absurd c_82 (by decide))
            · skip
              refine lv_iconst (v := (-1)) hx hb dX3_addContact_85 (by decide) ?_
              exact x_iret B G (rfl) (rfl) dX3_addContact_86
        · exact False.elim (b2i_0.mp c_49 (hy7))
    · skip
      refine lv_aload_n hx hb dX3_addContact_16 rfl (lv_at hl 0 rfl) ?_
      refine lv_iload hx hb dX3_addContact_17 (lv_at hl 4 rfl) ?_
      refine lv_iload_n hx hb dX3_addContact_19 rfl (lv_at hl 3 rfl) ?_
      refine lv_ldc (v := 100000) hx hb B.1.2.2.2.1 (B.1.2.2.2.2 (Cond.constant RX3 125 (100000)) (by decide +kernel)) dX3_addContact_20 ?_
      refine x_callVi (rest := []) B G (c_X3_between l M V g f 100000) (cwV 3 B.1.2.2.2.2 gX3_addContact_X3_between rfl rfl rfl (by decide +kernel) ⟨Nat.le_of_ble_eq_true rfl, Nat.le_of_ble_eq_true rfl⟩) (m_recv B G M) rfl hl.1 rfl (Nat.le_of_ble_eq_true rfl) ⟨Nat.zero_le _, Nat.zero_le _⟩ dX3_addContact_22 (fun H locs G => ?_)
      refine lv_if_eq (tgt := 32) hx hb dX3_addContact_25 (by decide) (fun c_25 => ?_) (fun c_25 => ?_)
      · skip
        refine lv_iconst (v := 0) hx hb dX3_addContact_32 (by decide) ?_
        refine lv_istore (lv' := [(5, .int 0), (0, .ref (ad 17)), (1, .int x), (2, .int y), (3, .int f), (4, .int g)]) hx hb dX3_addContact_33 hl (by decide) rfl (fun ls hl => ?_)
        refine lv_aload_n hx hb dX3_addContact_35 rfl (lv_at hl 1 rfl) ?_
        refine lv_aload_n hx hb dX3_addContact_36 rfl (lv_at hl 1 rfl) ?_
        refine lv_iload_n hx hb dX3_addContact_37 rfl (lv_at hl 2 rfl) ?_
        refine x_callVi (rest := [.ref (ad 17)]) B G (c_X3_isNode l M V x) (cwV 1 B.1.2.2.2.2 gX3_addContact_X3_isNode rfl rfl rfl (by decide +kernel) ⟨Nat.le_of_ble_eq_true rfl, Nat.le_of_ble_eq_true rfl⟩) (m_recv B G M) rfl hl.1 rfl (Nat.le_of_ble_eq_true rfl) ⟨Nat.zero_le _, Nat.zero_le _⟩ dX3_addContact_38 (fun H locs G => ?_)
        refine lv_if_eq (tgt := 52) hx hb dX3_addContact_41 (by decide) (fun c_41 => ?_) (fun c_41 => ?_)
        · exact False.elim (b2i_0.mp c_41 (hx7))
        · skip
          refine lv_aload_n hx hb dX3_addContact_44 rfl (lv_at hl 1 rfl) ?_
          refine lv_iload_n hx hb dX3_addContact_45 rfl (lv_at hl 3 rfl) ?_
          refine x_callVi (rest := [.ref (ad 17)]) B G (c_X3_isNode l M V y) (cwV 1 B.1.2.2.2.2 gX3_addContact_X3_isNode rfl rfl rfl (by decide +kernel) ⟨Nat.le_of_ble_eq_true rfl, Nat.le_of_ble_eq_true rfl⟩) (m_recv B G M) rfl hl.1 rfl (Nat.le_of_ble_eq_true rfl) ⟨Nat.zero_le _, Nat.zero_le _⟩ dX3_addContact_46 (fun H locs G => ?_)
          refine lv_if_ne (tgt := 56) hx hb dX3_addContact_49 (by decide) (fun c_49 => ?_) (fun c_49 => ?_)
          · skip
            refine lv_iload hx hb dX3_addContact_56 (lv_at hl 0 rfl) ?_
            refine lv_if_ne (tgt := 65) hx hb dX3_addContact_58 (by decide) (fun c_58 => ?_) (fun c_58 => ?_)
            · exact False.elim (c_58 (by decide))
            · skip
              refine lv_iconst (v := 2) hx hb dX3_addContact_61 (by decide) ?_
              refine lv_goto (tgt := 79) hx hb dX3_addContact_62 (by decide) ?_
              refine x_callVi (rest := []) B G (c_X3_holds l M V 2) (cwV 1 B.1.2.2.2.2 gX3_addContact_X3_holds rfl rfl rfl (by decide +kernel) ⟨Nat.le_of_ble_eq_true rfl, Nat.le_of_ble_eq_true rfl⟩) (m_recv B G M) rfl hl.1 rfl (Nat.le_of_ble_eq_true rfl) ⟨Nat.zero_le _, Nat.zero_le _⟩ dX3_addContact_79 (fun H locs G => ?_)
              refine lv_if_eq (tgt := 87) hx hb dX3_addContact_82 (by decide) (fun c_82 => ?_) (fun c_82 => ?_)
              · exact False.elim (absurd c_82 (by decide))
              · skip
                refine lv_iconst (v := (-1)) hx hb dX3_addContact_85 (by decide) ?_
                exact x_iret B G (rfl) (rfl) dX3_addContact_86
          · exact False.elim (b2i_0.mp c_49 (hy7))
      · skip
        exact absurd ⟨c_2, b2i_1 c_13, b2i_1 c_25⟩ h
set_option maxHeartbeats 4000000 in
set_option maxRecDepth 100000 in
theorem c_X3_addContact_bad3 (l : Launch) {D : va_G} {sh : xS} {ad : Nat → Nat} {cI : ClassId} {tys : List (ClassId × FieldType)} (M : xMm sh ad cI tys) (V : xV) (x y f g : Int32) (hx7 : 0 ≤ x ∧ x ≤ 7) (hy7 : 0 ≤ y ∧ y ≤ 7) (h : x ≠ y ∧ (0 ≤ f ∧ f ≤ 100000) ∧ (f ≤ g ∧ g ≤ 100000)) (h30 : V 17 18 = 30) : xMi l yX3_addContact wsX3_addContact (rmK 2) D sh ad tys V [.ref (ad 17), .int x, .int y, .int f, .int g] (-1) (xu V 17 20 3) := by
  refine xOfi (cc := cX3_addContact) (nL := 6) (ret := some .int) (own := RX3) (by decide) rfl rfl (Nat.le_of_ble_eq_true rfl) M.2.2 ?_
  intro p e s m args below meth c A ls B G hl
  have hx := B.1.1
  have hb := B.1.2.1
  have hin : ∀ w ∈ wsX30, w ∈ wsX3_addContact := by decide +kernel
  have hl : lv_has ls 6 [(0, .ref (ad 17)), (1, .int x), (2, .int y), (3, .int f), (4, .int g)] := hl
  refine lv_iload_n hx hb dX3_addContact_0 rfl (lv_at hl 1 rfl) ?_
  refine lv_iload_n hx hb dX3_addContact_1 rfl (lv_at hl 2 rfl) ?_
  refine lv_icmp_eq (tgt := 32) hx hb dX3_addContact_2 (by decide) (fun c_2 => ?_) (fun c_2 => ?_)
  · exact False.elim (h.1 c_2)
  · skip
    refine lv_aload_n hx hb dX3_addContact_5 rfl (lv_at hl 0 rfl) ?_
    refine lv_iload_n hx hb dX3_addContact_6 rfl (lv_at hl 3 rfl) ?_
    refine lv_iconst (v := 0) hx hb dX3_addContact_7 (by decide) ?_
    refine lv_ldc (v := 100000) hx hb B.1.2.2.2.1 (B.1.2.2.2.2 (Cond.constant RX3 125 (100000)) (by decide +kernel)) dX3_addContact_8 ?_
    refine x_callVi (rest := []) B G (c_X3_between l M V f 0 100000) (cwV 3 B.1.2.2.2.2 gX3_addContact_X3_between rfl rfl rfl (by decide +kernel) ⟨Nat.le_of_ble_eq_true rfl, Nat.le_of_ble_eq_true rfl⟩) (m_recv B G M) rfl hl.1 rfl (Nat.le_of_ble_eq_true rfl) ⟨Nat.zero_le _, Nat.zero_le _⟩ dX3_addContact_10 (fun H locs G => ?_)
    refine lv_if_eq (tgt := 32) hx hb dX3_addContact_13 (by decide) (fun c_13 => ?_) (fun c_13 => ?_)
    · exact False.elim (b2i_0.mp c_13 (h.2.1))
    · skip
      refine lv_aload_n hx hb dX3_addContact_16 rfl (lv_at hl 0 rfl) ?_
      refine lv_iload hx hb dX3_addContact_17 (lv_at hl 4 rfl) ?_
      refine lv_iload_n hx hb dX3_addContact_19 rfl (lv_at hl 3 rfl) ?_
      refine lv_ldc (v := 100000) hx hb B.1.2.2.2.1 (B.1.2.2.2.2 (Cond.constant RX3 125 (100000)) (by decide +kernel)) dX3_addContact_20 ?_
      refine x_callVi (rest := []) B G (c_X3_between l M V g f 100000) (cwV 3 B.1.2.2.2.2 gX3_addContact_X3_between rfl rfl rfl (by decide +kernel) ⟨Nat.le_of_ble_eq_true rfl, Nat.le_of_ble_eq_true rfl⟩) (m_recv B G M) rfl hl.1 rfl (Nat.le_of_ble_eq_true rfl) ⟨Nat.zero_le _, Nat.zero_le _⟩ dX3_addContact_22 (fun H locs G => ?_)
      refine lv_if_eq (tgt := 32) hx hb dX3_addContact_25 (by decide) (fun c_25 => ?_) (fun c_25 => ?_)
      · exact False.elim (b2i_0.mp c_25 (h.2.2))
      · skip
        refine lv_iconst (v := 1) hx hb dX3_addContact_28 (by decide) ?_
        refine lv_goto (tgt := 33) hx hb dX3_addContact_29 (by decide) ?_
        refine lv_istore (lv' := [(5, .int 1), (0, .ref (ad 17)), (1, .int x), (2, .int y), (3, .int f), (4, .int g)]) hx hb dX3_addContact_33 hl (by decide) rfl (fun ls hl => ?_)
        refine lv_aload_n hx hb dX3_addContact_35 rfl (lv_at hl 1 rfl) ?_
        refine lv_aload_n hx hb dX3_addContact_36 rfl (lv_at hl 1 rfl) ?_
        refine lv_iload_n hx hb dX3_addContact_37 rfl (lv_at hl 2 rfl) ?_
        refine x_callVi (rest := [.ref (ad 17)]) B G (c_X3_isNode l M V x) (cwV 1 B.1.2.2.2.2 gX3_addContact_X3_isNode rfl rfl rfl (by decide +kernel) ⟨Nat.le_of_ble_eq_true rfl, Nat.le_of_ble_eq_true rfl⟩) (m_recv B G M) rfl hl.1 rfl (Nat.le_of_ble_eq_true rfl) ⟨Nat.zero_le _, Nat.zero_le _⟩ dX3_addContact_38 (fun H locs G => ?_)
        refine lv_if_eq (tgt := 52) hx hb dX3_addContact_41 (by decide) (fun c_41 => ?_) (fun c_41 => ?_)
        · exact False.elim (b2i_0.mp c_41 (hx7))
        · skip
          refine lv_aload_n hx hb dX3_addContact_44 rfl (lv_at hl 1 rfl) ?_
          refine lv_iload_n hx hb dX3_addContact_45 rfl (lv_at hl 3 rfl) ?_
          refine x_callVi (rest := [.ref (ad 17)]) B G (c_X3_isNode l M V y) (cwV 1 B.1.2.2.2.2 gX3_addContact_X3_isNode rfl rfl rfl (by decide +kernel) ⟨Nat.le_of_ble_eq_true rfl, Nat.le_of_ble_eq_true rfl⟩) (m_recv B G M) rfl hl.1 rfl (Nat.le_of_ble_eq_true rfl) ⟨Nat.zero_le _, Nat.zero_le _⟩ dX3_addContact_46 (fun H locs G => ?_)
          refine lv_if_ne (tgt := 56) hx hb dX3_addContact_49 (by decide) (fun c_49 => ?_) (fun c_49 => ?_)
          · skip
            refine lv_iload hx hb dX3_addContact_56 (lv_at hl 0 rfl) ?_
            refine lv_if_ne (tgt := 65) hx hb dX3_addContact_58 (by decide) (fun c_58 => ?_) (fun c_58 => ?_)
            · skip
              refine lv_aload_n hx hb dX3_addContact_65 rfl (lv_at hl 1 rfl) ?_
              refine m_getI B G M hin 18 (by decide) (by decide +kernel) dX3_addContact_66 ?_
              refine lv_bipush (v := 30) hx hb dX3_addContact_69 (by decide) ?_
              refine lv_icmp_ne (tgt := 78) hx hb dX3_addContact_71 (by decide) (fun c_71 => ?_) (fun c_71 => ?_)
              · exact False.elim (c_71 h30)
              · skip
                refine lv_iconst (v := 3) hx hb dX3_addContact_74 (by decide) ?_
                refine lv_goto (tgt := 79) hx hb dX3_addContact_75 (by decide) ?_
                refine x_callVi (rest := []) B G (c_X3_holds l M V 3) (cwV 1 B.1.2.2.2.2 gX3_addContact_X3_holds rfl rfl rfl (by decide +kernel) ⟨Nat.le_of_ble_eq_true rfl, Nat.le_of_ble_eq_true rfl⟩) (m_recv B G M) rfl hl.1 rfl (Nat.le_of_ble_eq_true rfl) ⟨Nat.zero_le _, Nat.zero_le _⟩ dX3_addContact_79 (fun H locs G => ?_)
                refine lv_if_eq (tgt := 87) hx hb dX3_addContact_82 (by decide) (fun c_82 => ?_) (fun c_82 => ?_)
                · exact False.elim (absurd c_82 (by decide))
                · skip
                  refine lv_iconst (v := (-1)) hx hb dX3_addContact_85 (by decide) ?_
                  exact x_iret B G (rfl) (rfl) dX3_addContact_86
            · exact False.elim (absurd c_58 (by decide))
          · exact False.elim (b2i_0.mp c_49 (hy7))
set_option maxHeartbeats 4000000 in
set_option maxRecDepth 100000 in
theorem c_X3_addContact_ok (l : Launch) {D : va_G} {sh : xS} {ad : Nat → Nat} {cI : ClassId} {tys : List (ClassId × FieldType)} (M : xMm sh ad cI tys) (V : xV) (x y f g : Int32) (nc : Nat) (hx7 : 0 ≤ x ∧ x ≤ 7) (hy7 : 0 ≤ y ∧ y ≤ 7) (h : x ≠ y ∧ (0 ≤ f ∧ f ≤ 100000) ∧ (f ≤ g ∧ g ≤ 100000)) (hnc : V 17 18 = nI nc) (hc30 : nc < 30) : xMi l yX3_addContact wsX3_addContact (rmK 2) D sh ad tys V [.ref (ad 17), .int x, .int y, .int f, .int g] (nI (nc + 1)) (xu (xu (xu (xu (xu (xu V 17 20 0) 12 (4 * nc) x) 12 (4 * nc + 1) y) 12 (4 * nc + 2) f) 12 (4 * nc + 3) g) 17 18 (nI (nc + 1))) := by
  refine xOfi (cc := cX3_addContact) (nL := 6) (ret := some .int) (own := RX3) (by decide) rfl rfl (Nat.le_of_ble_eq_true rfl) M.2.2 ?_
  intro p e s m args below meth c A ls B G hl
  have hx := B.1.1
  have hb := B.1.2.1
  have hin : ∀ w ∈ wsX30, w ∈ wsX3_addContact := by decide +kernel
  have hl : lv_has ls 6 [(0, .ref (ad 17)), (1, .int x), (2, .int y), (3, .int f), (4, .int g)] := hl
  refine lv_iload_n hx hb dX3_addContact_0 rfl (lv_at hl 1 rfl) ?_
  refine lv_iload_n hx hb dX3_addContact_1 rfl (lv_at hl 2 rfl) ?_
  refine lv_icmp_eq (tgt := 32) hx hb dX3_addContact_2 (by decide) (fun c_2 => ?_) (fun c_2 => ?_)
  · exact False.elim (h.1 c_2)
  · skip
    refine lv_aload_n hx hb dX3_addContact_5 rfl (lv_at hl 0 rfl) ?_
    refine lv_iload_n hx hb dX3_addContact_6 rfl (lv_at hl 3 rfl) ?_
    refine lv_iconst (v := 0) hx hb dX3_addContact_7 (by decide) ?_
    refine lv_ldc (v := 100000) hx hb B.1.2.2.2.1 (B.1.2.2.2.2 (Cond.constant RX3 125 (100000)) (by decide +kernel)) dX3_addContact_8 ?_
    refine x_callVi (rest := []) B G (c_X3_between l M V f 0 100000) (cwV 3 B.1.2.2.2.2 gX3_addContact_X3_between rfl rfl rfl (by decide +kernel) ⟨Nat.le_of_ble_eq_true rfl, Nat.le_of_ble_eq_true rfl⟩) (m_recv B G M) rfl hl.1 rfl (Nat.le_of_ble_eq_true rfl) ⟨Nat.zero_le _, Nat.zero_le _⟩ dX3_addContact_10 (fun H locs G => ?_)
    refine lv_if_eq (tgt := 32) hx hb dX3_addContact_13 (by decide) (fun c_13 => ?_) (fun c_13 => ?_)
    · exact False.elim (b2i_0.mp c_13 (h.2.1))
    · skip
      refine lv_aload_n hx hb dX3_addContact_16 rfl (lv_at hl 0 rfl) ?_
      refine lv_iload hx hb dX3_addContact_17 (lv_at hl 4 rfl) ?_
      refine lv_iload_n hx hb dX3_addContact_19 rfl (lv_at hl 3 rfl) ?_
      refine lv_ldc (v := 100000) hx hb B.1.2.2.2.1 (B.1.2.2.2.2 (Cond.constant RX3 125 (100000)) (by decide +kernel)) dX3_addContact_20 ?_
      refine x_callVi (rest := []) B G (c_X3_between l M V g f 100000) (cwV 3 B.1.2.2.2.2 gX3_addContact_X3_between rfl rfl rfl (by decide +kernel) ⟨Nat.le_of_ble_eq_true rfl, Nat.le_of_ble_eq_true rfl⟩) (m_recv B G M) rfl hl.1 rfl (Nat.le_of_ble_eq_true rfl) ⟨Nat.zero_le _, Nat.zero_le _⟩ dX3_addContact_22 (fun H locs G => ?_)
      refine lv_if_eq (tgt := 32) hx hb dX3_addContact_25 (by decide) (fun c_25 => ?_) (fun c_25 => ?_)
      · exact False.elim (b2i_0.mp c_25 (h.2.2))
      · skip
        refine lv_iconst (v := 1) hx hb dX3_addContact_28 (by decide) ?_
        refine lv_goto (tgt := 33) hx hb dX3_addContact_29 (by decide) ?_
        refine lv_istore (lv' := [(5, .int 1), (0, .ref (ad 17)), (1, .int x), (2, .int y), (3, .int f), (4, .int g)]) hx hb dX3_addContact_33 hl (by decide) rfl (fun ls hl => ?_)
        refine lv_aload_n hx hb dX3_addContact_35 rfl (lv_at hl 1 rfl) ?_
        refine lv_aload_n hx hb dX3_addContact_36 rfl (lv_at hl 1 rfl) ?_
        refine lv_iload_n hx hb dX3_addContact_37 rfl (lv_at hl 2 rfl) ?_
        refine x_callVi (rest := [.ref (ad 17)]) B G (c_X3_isNode l M V x) (cwV 1 B.1.2.2.2.2 gX3_addContact_X3_isNode rfl rfl rfl (by decide +kernel) ⟨Nat.le_of_ble_eq_true rfl, Nat.le_of_ble_eq_true rfl⟩) (m_recv B G M) rfl hl.1 rfl (Nat.le_of_ble_eq_true rfl) ⟨Nat.zero_le _, Nat.zero_le _⟩ dX3_addContact_38 (fun H locs G => ?_)
        refine lv_if_eq (tgt := 52) hx hb dX3_addContact_41 (by decide) (fun c_41 => ?_) (fun c_41 => ?_)
        · exact False.elim (b2i_0.mp c_41 (hx7))
        · skip
          refine lv_aload_n hx hb dX3_addContact_44 rfl (lv_at hl 1 rfl) ?_
          refine lv_iload_n hx hb dX3_addContact_45 rfl (lv_at hl 3 rfl) ?_
          refine x_callVi (rest := [.ref (ad 17)]) B G (c_X3_isNode l M V y) (cwV 1 B.1.2.2.2.2 gX3_addContact_X3_isNode rfl rfl rfl (by decide +kernel) ⟨Nat.le_of_ble_eq_true rfl, Nat.le_of_ble_eq_true rfl⟩) (m_recv B G M) rfl hl.1 rfl (Nat.le_of_ble_eq_true rfl) ⟨Nat.zero_le _, Nat.zero_le _⟩ dX3_addContact_46 (fun H locs G => ?_)
          refine lv_if_ne (tgt := 56) hx hb dX3_addContact_49 (by decide) (fun c_49 => ?_) (fun c_49 => ?_)
          · skip
            refine lv_iload hx hb dX3_addContact_56 (lv_at hl 0 rfl) ?_
            refine lv_if_ne (tgt := 65) hx hb dX3_addContact_58 (by decide) (fun c_58 => ?_) (fun c_58 => ?_)
            · skip
              refine lv_aload_n hx hb dX3_addContact_65 rfl (lv_at hl 1 rfl) ?_
              refine m_getI B G M hin 18 (by decide) (by decide +kernel) dX3_addContact_66 ?_
              refine x_top (show _ = nI nc from hnc) ?_
              refine lv_bipush (v := 30) hx hb dX3_addContact_69 (by decide) ?_
              refine lv_icmp_ne (tgt := 78) hx hb dX3_addContact_71 (by decide) (fun c_71 => ?_) (fun c_71 => ?_)
              · skip
                have c_71 : ¬ (nc = 30) := fun h9 => c_71 ((nI_eq (a := nc) (b := 30) (by omega) (by omega)).mpr h9)
                refine lv_iconst (v := 0) hx hb dX3_addContact_78 (by decide) ?_
                refine x_callVi (rest := []) B G (c_X3_holds l M V 0) (cwV 1 B.1.2.2.2.2 gX3_addContact_X3_holds rfl rfl rfl (by decide +kernel) ⟨Nat.le_of_ble_eq_true rfl, Nat.le_of_ble_eq_true rfl⟩) (m_recv B G M) rfl hl.1 rfl (Nat.le_of_ble_eq_true rfl) ⟨Nat.zero_le _, Nat.zero_le _⟩ dX3_addContact_79 (fun H locs G => ?_)
                refine lv_if_eq (tgt := 87) hx hb dX3_addContact_82 (by decide) (fun c_82 => ?_) (fun c_82 => ?_)
                · skip
                  refine lv_aload_n hx hb dX3_addContact_87 rfl (lv_at hl 1 rfl) ?_
                  refine m_getA B G M hin 12 (by decide) (by decide +kernel) dX3_addContact_88 ?_
                  refine lv_iconst (v := 4) hx hb dX3_addContact_91 (by decide) ?_
                  refine lv_aload_n hx hb dX3_addContact_92 rfl (lv_at hl 1 rfl) ?_
                  refine m_getI B G M hin 18 (by decide) (by decide +kernel) dX3_addContact_93 ?_
                  refine x_top (show _ = nI nc from hnc) ?_
                  refine lv_imul hx hb dX3_addContact_96 ?_
                  refine x_top (show 4 * (nI nc) = nI (4 * nc) from pk_mul 4 nc) ?_
                  refine lv_iload_n hx hb dX3_addContact_97 rfl (lv_at hl 2 rfl) ?_
                  refine m_ast B G M 12 (by decide) (4 * nc) (show (4 * nc) < 120 by omega) rfl dX3_addContact_98 (fun H locs G => ?_)
                  refine lv_aload_n hx hb dX3_addContact_99 rfl (lv_at hl 1 rfl) ?_
                  refine m_getA B G M hin 12 (by decide) (by decide +kernel) dX3_addContact_100 ?_
                  refine lv_iconst (v := 4) hx hb dX3_addContact_103 (by decide) ?_
                  refine lv_aload_n hx hb dX3_addContact_104 rfl (lv_at hl 1 rfl) ?_
                  refine m_getI B G M hin 18 (by decide) (by decide +kernel) dX3_addContact_105 ?_
                  refine x_top (show _ = nI nc from hnc) ?_
                  refine lv_imul hx hb dX3_addContact_108 ?_
                  refine x_top (show 4 * (nI nc) = nI (4 * nc) from pk_mul 4 nc) ?_
                  refine lv_iconst (v := 1) hx hb dX3_addContact_109 (by decide) ?_
                  refine lv_iadd hx hb dX3_addContact_110 ?_
                  refine x_top (show (nI (4 * nc)) + 1 = nI ((4 * nc) + 1) from nI_add (4 * nc) 1) ?_
                  refine lv_iload_n hx hb dX3_addContact_111 rfl (lv_at hl 3 rfl) ?_
                  refine m_ast B G M 12 (by decide) ((4 * nc) + 1) (show ((4 * nc) + 1) < 120 by omega) rfl dX3_addContact_112 (fun H locs G => ?_)
                  refine lv_aload_n hx hb dX3_addContact_113 rfl (lv_at hl 1 rfl) ?_
                  refine m_getA B G M hin 12 (by decide) (by decide +kernel) dX3_addContact_114 ?_
                  refine lv_iconst (v := 4) hx hb dX3_addContact_117 (by decide) ?_
                  refine lv_aload_n hx hb dX3_addContact_118 rfl (lv_at hl 1 rfl) ?_
                  refine m_getI B G M hin 18 (by decide) (by decide +kernel) dX3_addContact_119 ?_
                  refine x_top (show _ = nI nc from hnc) ?_
                  refine lv_imul hx hb dX3_addContact_122 ?_
                  refine x_top (show 4 * (nI nc) = nI (4 * nc) from pk_mul 4 nc) ?_
                  refine lv_iconst (v := 2) hx hb dX3_addContact_123 (by decide) ?_
                  refine lv_iadd hx hb dX3_addContact_124 ?_
                  refine x_top (show (nI (4 * nc)) + 2 = nI ((4 * nc) + 2) from nI_add (4 * nc) 2) ?_
                  refine lv_iload_n hx hb dX3_addContact_125 rfl (lv_at hl 4 rfl) ?_
                  refine m_ast B G M 12 (by decide) ((4 * nc) + 2) (show ((4 * nc) + 2) < 120 by omega) rfl dX3_addContact_126 (fun H locs G => ?_)
                  refine lv_aload_n hx hb dX3_addContact_127 rfl (lv_at hl 1 rfl) ?_
                  refine m_getA B G M hin 12 (by decide) (by decide +kernel) dX3_addContact_128 ?_
                  refine lv_iconst (v := 4) hx hb dX3_addContact_131 (by decide) ?_
                  refine lv_aload_n hx hb dX3_addContact_132 rfl (lv_at hl 1 rfl) ?_
                  refine m_getI B G M hin 18 (by decide) (by decide +kernel) dX3_addContact_133 ?_
                  refine x_top (show _ = nI nc from hnc) ?_
                  refine lv_imul hx hb dX3_addContact_136 ?_
                  refine x_top (show 4 * (nI nc) = nI (4 * nc) from pk_mul 4 nc) ?_
                  refine lv_iconst (v := 3) hx hb dX3_addContact_137 (by decide) ?_
                  refine lv_iadd hx hb dX3_addContact_138 ?_
                  refine x_top (show (nI (4 * nc)) + 3 = nI ((4 * nc) + 3) from nI_add (4 * nc) 3) ?_
                  refine lv_iload hx hb dX3_addContact_139 (lv_at hl 5 rfl) ?_
                  refine m_ast B G M 12 (by decide) ((4 * nc) + 3) (show ((4 * nc) + 3) < 120 by omega) rfl dX3_addContact_141 (fun H locs G => ?_)
                  refine lv_aload_n hx hb dX3_addContact_142 rfl (lv_at hl 1 rfl) ?_
                  refine lv_dup hx hb dX3_addContact_143 rfl ?_
                  refine m_getI B G M hin 18 (by decide) (by decide +kernel) dX3_addContact_144 ?_
                  refine x_top (show _ = nI nc from hnc) ?_
                  refine lv_iconst (v := 1) hx hb dX3_addContact_147 (by decide) ?_
                  refine lv_iadd hx hb dX3_addContact_148 ?_
                  refine x_top (show (nI nc) + 1 = nI (nc + 1) from nI_add nc 1) ?_
                  refine m_putI B G M hin 18 (by decide) (by decide +kernel) dX3_addContact_149 (fun H locs G => ?_)
                  refine lv_aload_n hx hb dX3_addContact_152 rfl (lv_at hl 1 rfl) ?_
                  refine m_getI B G M hin 18 (by decide) (by decide +kernel) dX3_addContact_153 ?_
                  exact x_iret B G (rfl) (rfl) dX3_addContact_156
                · exact False.elim (c_82 (by decide))
              · exact False.elim (absurd ((nI_eq (a := nc) (b := 30) (by omega) (by omega)).mp c_71) (by omega))
            · exact False.elim (absurd c_58 (by decide))
          · exact False.elim (b2i_0.mp c_49 (hy7))
