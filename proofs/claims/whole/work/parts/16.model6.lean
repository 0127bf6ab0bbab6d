/-- holders, from the seventh node down -/
def mSet (V : xV) (k : Nat) : Nat → Int32
  | 0 => 0
  | d + 1 => 2 * mSet V k d + b2i (0 < V 6 (40 * (7 - d) + k))
theorem oI_dec (m : Nat) : oI (m + 1) + (-1) = oI m := by
  rw [oI_s]
  cases m with
  | zero => rfl
  | succ m => rw [oI_s]; exact pk_m1 m
theorem oI_c {m : Nat} (h : m ≠ 0) : oI m = nI (m - 1) := if_neg h
set_option maxHeartbeats 4000000 in
set_option maxRecDepth 100000 in
theorem c_X3_holders_bad (l : Launch) {D : va_G} {sh : xS} {ad : Nat → Nat} {cI : ClassId} {tys : List (ClassId × FieldType)} (M : xMm sh ad cI tys) (V : xV) (x : Int32) (h : ¬ (0 ≤ x ∧ x ≤ V 17 17 - 1)) : xMi l yX3_holders wsX3_holders (rmK 2) D sh ad tys V [.ref (ad 17), .int x] (-1) (xu V 17 20 1) := by
  refine xOfi (cc := cX3_holders) (nL := 4) (ret := some .int) (own := RX3) (by decide) rfl rfl (Nat.le_of_ble_eq_true rfl) M.2.2 ?_
  intro p e s m args below meth c A ls B G hl
  have hx := B.1.1
  have hb := B.1.2.1
  have hin : ∀ w ∈ wsX30, w ∈ wsX3_holders := by decide +kernel
  have hl : lv_has ls 4 [(0, .ref (ad 17)), (1, .int x)] := hl
  refine lv_aload_n hx hb dX3_holders_0 rfl (lv_at hl 0 rfl) ?_
  refine lv_aload_n hx hb dX3_holders_1 rfl (lv_at hl 0 rfl) ?_
  refine lv_iload_n hx hb dX3_holders_2 rfl (lv_at hl 1 rfl) ?_
  refine x_callVi (rest := [.ref (ad 17)]) B G (c_X3_isBundle l M V x) (cwV 1 B.1.2.2.2.2 gX3_holders_X3_isBundle rfl rfl rfl (by decide +kernel) ⟨Nat.le_of_ble_eq_true rfl, Nat.le_of_ble_eq_true rfl⟩) (m_recv B G M) rfl hl.1 rfl (Nat.le_of_ble_eq_true rfl) ⟨Nat.zero_le _, Nat.zero_le _⟩ dX3_holders_3 (fun H locs G => ?_)
  refine lv_if_eq (tgt := 13) hx hb dX3_holders_6 (by decide) (fun c_6 => ?_) (fun c_6 => ?_)
  · skip
    refine lv_iconst (v := 1) hx hb dX3_holders_13 (by decide) ?_
    refine x_callVi (rest := []) B G (c_X3_holds l M V 1) (cwV 1 B.1.2.2.2.2 gX3_holders_X3_holds rfl rfl rfl (by decide +kernel) ⟨Nat.le_of_ble_eq_true rfl, Nat.le_of_ble_eq_true rfl⟩) (m_recv B G M) rfl hl.1 rfl (Nat.le_of_ble_eq_true rfl) ⟨Nat.zero_le _, Nat.zero_le _⟩ dX3_holders_14 (fun H locs G => ?_)
    refine lv_if_eq (tgt := 22) hx hb dX3_holders_17 (by decide) (fun c_17 => ?_) (fun c_17 => ?_)
    · exact False.elim (absurd c_17 (by decide))
    · skip
      refine lv_iconst (v := (-1)) hx hb dX3_holders_20 (by decide) ?_
      exact x_iret B G (rfl) (rfl) dX3_holders_21
  · exact False.elim (c_6 (b2i_f (h)))
set_option maxHeartbeats 4000000 in
set_option maxRecDepth 100000 in
theorem c_X3_holders_ok (l : Launch) {D : va_G} {sh : xS} {ad : Nat → Nat} {cI : ClassId} {tys : List (ClassId × FieldType)} (M : xMm sh ad cI tys) (V : xV) (k : Nat) (hk : k < 40) (hk1 : 0 ≤ nI k ∧ nI k ≤ V 17 17 - 1) : xMi l yX3_holders wsX3_holders (rmK 2) D sh ad tys V [.ref (ad 17), .int (nI k)] (mSet V k 8) (xu V 17 20 0) := by
  refine xOfi (cc := cX3_holders) (nL := 4) (ret := some .int) (own := RX3) (by decide) rfl rfl (Nat.le_of_ble_eq_true rfl) M.2.2 ?_
  intro p e s m args below meth c A ls B G hl
  have hx := B.1.1
  have hb := B.1.2.1
  have hin : ∀ w ∈ wsX30, w ∈ wsX3_holders := by decide +kernel
  have hl : lv_has ls 4 [(0, .ref (ad 17)), (1, .int (nI k))] := hl
  refine lv_aload_n hx hb dX3_holders_0 rfl (lv_at hl 0 rfl) ?_
  refine lv_aload_n hx hb dX3_holders_1 rfl (lv_at hl 0 rfl) ?_
  refine lv_iload_n hx hb dX3_holders_2 rfl (lv_at hl 1 rfl) ?_
  refine x_callVi (rest := [.ref (ad 17)]) B G (c_X3_isBundle l M V (nI k)) (cwV 1 B.1.2.2.2.2 gX3_holders_X3_isBundle rfl rfl rfl (by decide +kernel) ⟨Nat.le_of_ble_eq_true rfl, Nat.le_of_ble_eq_true rfl⟩) (m_recv B G M) rfl hl.1 rfl (Nat.le_of_ble_eq_true rfl) ⟨Nat.zero_le _, Nat.zero_le _⟩ dX3_holders_3 (fun H locs G => ?_)
  refine lv_if_eq (tgt := 13) hx hb dX3_holders_6 (by decide) (fun c_6 => ?_) (fun c_6 => ?_)
  · exact False.elim (b2i_0.mp c_6 (hk1))
  · skip
    refine lv_iconst (v := 0) hx hb dX3_holders_9 (by decide) ?_
    refine lv_goto (tgt := 14) hx hb dX3_holders_10 (by decide) ?_
    refine x_callVi (rest := []) B G (c_X3_holds l M V 0) (cwV 1 B.1.2.2.2.2 gX3_holders_X3_holds rfl rfl rfl (by decide +kernel) ⟨Nat.le_of_ble_eq_true rfl, Nat.le_of_ble_eq_true rfl⟩) (m_recv B G M) rfl hl.1 rfl (Nat.le_of_ble_eq_true rfl) ⟨Nat.zero_le _, Nat.zero_le _⟩ dX3_holders_14 (fun H locs G => ?_)
    refine lv_if_eq (tgt := 22) hx hb dX3_holders_17 (by decide) (fun c_17 => ?_) (fun c_17 => ?_)
    · skip
      refine lv_iconst (v := 0) hx hb dX3_holders_22 (by decide) ?_
      refine lv_istore_n (lv' := [(2, .int 0), (0, .ref (ad 17)), (1, .int (nI k))]) hx hb dX3_holders_23 rfl hl (by decide) rfl (fun ls hl => ?_)
      refine lv_bipush (v := 7) hx hb dX3_holders_24 (by decide) ?_
      refine lv_istore_n (lv' := [(3, .int 7), (2, .int 0), (0, .ref (ad 17)), (1, .int (nI k))]) hx hb dX3_holders_26 rfl hl (by decide) rfl (fun ls hl => ?_)
      have loop_27 : ∀ (f i : Nat), i ≤ 8 → 8 < i + f → ∀ (H : Heap) (locs : List Loc) (ls : Array Slot), xG D sh ad A s.heap (xu V 17 20 0) H locs → lv_has ls 4 [(0, .ref (ad 17)), (1, .int (nI k)), (2, .int (mSet V k i)), (3, .int (oI (8 - i)))] → W p l e (rmK 2) s m args below meth c H locs 0 0 (xQi below D sh ad tys A args s (mSet V k 8) (xu V 17 20 0)) (F0 m 27 ls []) := by
        intro f
        induction f with
        | zero => intro i h1 h2; exact absurd h2 (by omega)
        | succ f ih_27 =>
          intro i hi hf H locs ls G hl
          refine lv_iload_n hx hb dX3_holders_27 rfl (lv_at hl 3 rfl) ?_
          refine lv_if_lt (tgt := 61) hx hb dX3_holders_28 (by decide) (fun c_28 => ?_) (fun c_28 => ?_)
          · skip
            have c8 : i = 8 := by have z := (oI_neg (by omega)).mp c_28; omega
            refine lv_iload_n hx hb dX3_holders_61 rfl (lv_at hl 2 rfl) ?_
            exact x_iret B G (by rw [c8]) (rfl) dX3_holders_62
          · skip
            have c8 : ¬ 8 - i = 0 := fun z => c_28 ((oI_neg (by omega)).mpr z)
            refine lv_iconst (v := 2) hx hb dX3_holders_31 (by decide) ?_
            refine lv_iload_n hx hb dX3_holders_32 rfl (lv_at hl 2 rfl) ?_
            refine lv_imul hx hb dX3_holders_33 ?_
            refine lv_aload_n hx hb dX3_holders_34 rfl (lv_at hl 0 rfl) ?_
            refine m_getA B G M hin 6 (by decide) (by decide +kernel) dX3_holders_35 ?_
            refine lv_bipush (v := 40) hx hb dX3_holders_38 (by decide) ?_
            refine lv_iload_n hx hb dX3_holders_40 rfl (lv_at hl 3 rfl) ?_
            refine x_top (show _ = nI (7 - i) from (by rw [oI_c c8]; exact congrArg nI (by omega))) ?_
            refine lv_imul hx hb dX3_holders_41 ?_
            refine x_top (show 40 * (nI (7 - i)) = nI (40 * (7 - i)) from pk_mul 40 (7 - i)) ?_
            refine lv_iload_n hx hb dX3_holders_42 rfl (lv_at hl 1 rfl) ?_
            refine lv_iadd hx hb dX3_holders_43 ?_
            refine x_top (show (nI (40 * (7 - i))) + (nI k) = nI ((40 * (7 - i)) + k) from nI_add (40 * (7 - i)) k) ?_
            refine m_ald B G M 6 (by decide) ((40 * (7 - i)) + k) (show ((40 * (7 - i)) + k) < 320 by omega) rfl dX3_holders_44 ?_
            refine lv_if_le (tgt := 52) hx hb dX3_holders_45 (by decide) (fun c_45 => ?_) (fun c_45 => ?_)
            · skip
              refine lv_iconst (v := 0) hx hb dX3_holders_52 (by decide) ?_
              refine lv_iadd hx hb dX3_holders_53 ?_
              refine lv_istore_n (lv' := [(2, .int ((2 * (mSet V k i)) + 0)), (0, .ref (ad 17)), (1, .int (nI k)), (3, .int (oI (8 - i)))]) hx hb dX3_holders_54 rfl hl (by decide) rfl (fun ls hl => ?_)
              refine lv_iinc (v := oI (8 - (i + 1))) (lv' := [(3, .int (oI (8 - (i + 1)))), (2, .int ((2 * (mSet V k i)) + 0)), (0, .ref (ad 17)), (1, .int (nI k))]) hx hb dX3_holders_55 hl (k := 3) rfl ((by have z := oI_dec (8 - (i + 1)); rw [show 8 - (i + 1) + 1 = 8 - i by omega] at z; exact z)) (by decide) rfl (fun ls hl => ?_)
              refine lv_goto (tgt := 27) hx hb dX3_holders_58 (by decide) ?_
              have hl := lv_sub (l' := [(0, .ref (ad 17)), (1, .int (nI k)), (2, .int ((2 * (mSet V k i)) + 0)), (3, .int (oI (8 - (i + 1))))]) hl [2, 3, 1, 0] rfl
              have hl := lv_cast hl (congrArg (fun z : Int32 => ([(0, .ref (ad 17)), (1, .int (nI k)), (2, .int z), (3, .int (oI (8 - (i + 1))))] : List (Nat × Value))) (show (2 * (mSet V k i)) + 0 = mSet V k (i + 1) from (by show _ = 2 * mSet V k i + b2i (0 < V 6 (40 * (7 - i) + k)); rw [b2i_f (P := 0 < V 6 (40 * (7 - i) + k)) (i_nlt.mpr c_45)])))
              exact ih_27 (i + 1) (by omega) (by omega) _ _ _ G hl
            · skip
              refine lv_iconst (v := 1) hx hb dX3_holders_48 (by decide) ?_
              refine lv_goto (tgt := 53) hx hb dX3_holders_49 (by decide) ?_
              refine lv_iadd hx hb dX3_holders_53 ?_
              refine lv_istore_n (lv' := [(2, .int ((2 * (mSet V k i)) + 1)), (0, .ref (ad 17)), (1, .int (nI k)), (3, .int (oI (8 - i)))]) hx hb dX3_holders_54 rfl hl (by decide) rfl (fun ls hl => ?_)
              refine lv_iinc (v := oI (8 - (i + 1))) (lv' := [(3, .int (oI (8 - (i + 1)))), (2, .int ((2 * (mSet V k i)) + 1)), (0, .ref (ad 17)), (1, .int (nI k))]) hx hb dX3_holders_55 hl (k := 3) rfl ((by have z := oI_dec (8 - (i + 1)); rw [show 8 - (i + 1) + 1 = 8 - i by omega] at z; exact z)) (by decide) rfl (fun ls hl => ?_)
              refine lv_goto (tgt := 27) hx hb dX3_holders_58 (by decide) ?_
              have hl := lv_sub (l' := [(0, .ref (ad 17)), (1, .int (nI k)), (2, .int ((2 * (mSet V k i)) + 1)), (3, .int (oI (8 - (i + 1))))]) hl [2, 3, 1, 0] rfl
              have hl := lv_cast hl (congrArg (fun z : Int32 => ([(0, .ref (ad 17)), (1, .int (nI k)), (2, .int z), (3, .int (oI (8 - (i + 1))))] : List (Nat × Value))) (show (2 * (mSet V k i)) + 1 = mSet V k (i + 1) from (by show _ = 2 * mSet V k i + b2i (0 < V 6 (40 * (7 - i) + k)); rw [b2i_t (P := 0 < V 6 (40 * (7 - i) + k)) (i_nle.mp c_45)])))
              exact ih_27 (i + 1) (by omega) (by omega) _ _ _ G hl
      have hl := lv_sub (l' := [(0, .ref (ad 17)), (1, .int (nI k)), (2, .int 0), (3, .int 7)]) hl [2, 3, 1, 0] rfl
      have hl := lv_cast hl (congrArg (fun z : Int32 => ([(0, .ref (ad 17)), (1, .int (nI k)), (2, .int z), (3, .int 7)] : List (Nat × Value))) (show 0 = mSet V k 0 from rfl))
      have hl := lv_cast hl (congrArg (fun z : Int32 => ([(0, .ref (ad 17)), (1, .int (nI k)), (2, .int (mSet V k 0)), (3, .int z)] : List (Nat × Value))) (show 7 = oI (8 - 0) from rfl))
      exact loop_27 (8 + 1) 0 (by omega) (by omega) _ _ _ G hl
    · exact False.elim (c_17 (by decide))
def mOver (V : xV) (t0 t1 : Int32) (k : Nat) : Bool := decide (¬ V 2 k ≤ t0) && decide (¬ t1 < V 2 k)
def mWipe (V : xV) (k : Nat) : Nat → xV
  | 0 => V
  | n + 1 => xu (mWipe V k n) 6 (40 * n + k) 0
theorem mWipe_o (V : xV) (k n : Nat) {i : Nat} (h : i ≠ 6) : mWipe V k n i = V i := by
  induction n with
  | zero => rfl
  | succ n ih => unfold mWipe; rw [xu_ne _ _ _ h, ih]
def mPass (V : xV) (t0 t1 : Int32) : Nat → xV
  | 0 => V
  | k + 1 => if mOver V t0 t1 k = true then mWipe (xu (mPass V t0 t1 k) 3 k (-1)) k 8 else mPass V t0 t1 k
theorem mPass_o (V : xV) (t0 t1 : Int32) (k : Nat) {i : Nat} (h3 : i ≠ 3) (h6 : i ≠ 6) : mPass V t0 t1 k i = V i := by
  induction k with
  | zero => rfl
  | succ k ih =>
    unfold mPass
    split
    · rw [mWipe_o _ _ _ h6, xu_ne _ _ _ h3, ih]
    · exact ih
def mGone (V : xV) (t0 t1 : Int32) (k : Nat) : Bool := mOver V t0 t1 k && decide (¬ 0 ≤ V 4 k)
set_option maxHeartbeats 4000000 in
set_option maxRecDepth 100000 in
theorem c_X3_pass_bad (l : Launch) {D : va_G} {sh : xS} {ad : Nat → Nat} {cI : ClassId} {tys : List (ClassId × FieldType)} (M : xMm sh ad cI tys) (V : xV) (x : Int32) (h : ¬ (1 ≤ x ∧ x ≤ 10000)) : xMi l yX3_pass wsX3_pass (rmK 2) D sh ad tys V [.ref (ad 17), .int x] (-1) (xu V 17 20 1) := by
  refine xOfi (cc := cX3_pass) (nL := 6) (ret := some .int) (own := RX3) (by decide) rfl rfl (Nat.le_of_ble_eq_true rfl) M.2.2 ?_
  intro p e s m args below meth c A ls B G hl
  have hx := B.1.1
  have hb := B.1.2.1
  have hin : ∀ w ∈ wsX30, w ∈ wsX3_pass := by decide +kernel
  have hl : lv_has ls 6 [(0, .ref (ad 17)), (1, .int x)] := hl
  refine lv_aload_n hx hb dX3_pass_0 rfl (lv_at hl 0 rfl) ?_
  refine lv_aload_n hx hb dX3_pass_1 rfl (lv_at hl 0 rfl) ?_
  refine lv_iload_n hx hb dX3_pass_2 rfl (lv_at hl 1 rfl) ?_
  refine lv_iconst (v := 1) hx hb dX3_pass_3 (by decide) ?_
  refine lv_sipush (v := 10000) hx hb dX3_pass_4 (by decide) ?_
  refine x_callVi (rest := [.ref (ad 17)]) B G (c_X3_between l M V x 1 10000) (cwV 3 B.1.2.2.2.2 gX3_pass_X3_between rfl rfl rfl (by decide +kernel) ⟨Nat.le_of_ble_eq_true rfl, Nat.le_of_ble_eq_true rfl⟩) (m_recv B G M) rfl hl.1 rfl (Nat.le_of_ble_eq_true rfl) ⟨Nat.zero_le _, Nat.zero_le _⟩ dX3_pass_7 (fun H locs G => ?_)
  refine lv_if_eq (tgt := 17) hx hb dX3_pass_10 (by decide) (fun c_10 => ?_) (fun c_10 => ?_)
  · skip
    refine lv_iconst (v := 1) hx hb dX3_pass_17 (by decide) ?_
    refine x_callVi (rest := []) B G (c_X3_holds l M V 1) (cwV 1 B.1.2.2.2.2 gX3_pass_X3_holds rfl rfl rfl (by decide +kernel) ⟨Nat.le_of_ble_eq_true rfl, Nat.le_of_ble_eq_true rfl⟩) (m_recv B G M) rfl hl.1 rfl (Nat.le_of_ble_eq_true rfl) ⟨Nat.zero_le _, Nat.zero_le _⟩ dX3_pass_18 (fun H locs G => ?_)
    refine lv_if_eq (tgt := 26) hx hb dX3_pass_21 (by decide) (fun c_21 => ?_) (fun c_21 => ?_)
    · exact False.elim (absurd c_21 (by decide))
    · skip
      refine lv_iconst (v := (-1)) hx hb dX3_pass_24 (by decide) ?_
      exact x_iret B G (rfl) (rfl) dX3_pass_25
  · exact False.elim (c_10 (b2i_f (h)))
set_option maxHeartbeats 4000000 in
set_option maxRecDepth 100000 in
theorem c_X3_pass_ok (l : Launch) {D : va_G} {sh : xS} {ad : Nat → Nat} {cI : ClassId} {tys : List (ClassId × FieldType)} (M : xMm sh ad cI tys) (V : xV) (x : Int32) (cnt : Nat) (h : 1 ≤ x ∧ x ≤ 10000) (hcnt : V 17 17 = nI cnt) (hc40 : cnt ≤ 40) : xMi l yX3_pass wsX3_pass (rmK 2) D sh ad tys V [.ref (ad 17), .int x] (nI (cntP (mGone (xu (xu V 17 20 0) 17 19 (V 17 19 + x)) (V 17 19) (V 17 19 + x)) cnt)) (mPass (xu (xu V 17 20 0) 17 19 (V 17 19 + x)) (V 17 19) (V 17 19 + x) cnt) := by
  refine xOfi (cc := cX3_pass) (nL := 6) (ret := some .int) (own := RX3) (by decide) rfl rfl (Nat.le_of_ble_eq_true rfl) M.2.2 ?_
  intro p e s m args below meth c A ls B G hl
  have hx := B.1.1
  have hb := B.1.2.1
  have hin : ∀ w ∈ wsX30, w ∈ wsX3_pass := by decide +kernel
  have hl : lv_has ls 6 [(0, .ref (ad 17)), (1, .int x)] := hl
  refine lv_aload_n hx hb dX3_pass_0 rfl (lv_at hl 0 rfl) ?_
  refine lv_aload_n hx hb dX3_pass_1 rfl (lv_at hl 0 rfl) ?_
  refine lv_iload_n hx hb dX3_pass_2 rfl (lv_at hl 1 rfl) ?_
  refine lv_iconst (v := 1) hx hb dX3_pass_3 (by decide) ?_
  refine lv_sipush (v := 10000) hx hb dX3_pass_4 (by decide) ?_
  refine x_callVi (rest := [.ref (ad 17)]) B G (c_X3_between l M V x 1 10000) (cwV 3 B.1.2.2.2.2 gX3_pass_X3_between rfl rfl rfl (by decide +kernel) ⟨Nat.le_of_ble_eq_true rfl, Nat.le_of_ble_eq_true rfl⟩) (m_recv B G M) rfl hl.1 rfl (Nat.le_of_ble_eq_true rfl) ⟨Nat.zero_le _, Nat.zero_le _⟩ dX3_pass_7 (fun H locs G => ?_)
  refine lv_if_eq (tgt := 17) hx hb dX3_pass_10 (by decide) (fun c_10 => ?_) (fun c_10 => ?_)
  · exact False.elim (b2i_0.mp c_10 (h))
  · skip
    refine lv_iconst (v := 0) hx hb dX3_pass_13 (by decide) ?_
    refine lv_goto (tgt := 18) hx hb dX3_pass_14 (by decide) ?_
    refine x_callVi (rest := []) B G (c_X3_holds l M V 0) (cwV 1 B.1.2.2.2.2 gX3_pass_X3_holds rfl rfl rfl (by decide +kernel) ⟨Nat.le_of_ble_eq_true rfl, Nat.le_of_ble_eq_true rfl⟩) (m_recv B G M) rfl hl.1 rfl (Nat.le_of_ble_eq_true rfl) ⟨Nat.zero_le _, Nat.zero_le _⟩ dX3_pass_18 (fun H locs G => ?_)
    refine lv_if_eq (tgt := 26) hx hb dX3_pass_21 (by decide) (fun c_21 => ?_) (fun c_21 => ?_)
    · skip
      refine lv_aload_n hx hb dX3_pass_26 rfl (lv_at hl 0 rfl) ?_
      refine m_getI B G M hin 19 (by decide) (by decide +kernel) dX3_pass_27 ?_
      refine lv_istore_n (lv' := [(2, .int ((xu V 17 20 0) 17 19)), (0, .ref (ad 17)), (1, .int x)]) hx hb dX3_pass_30 rfl hl (by decide) rfl (fun ls hl => ?_)
      refine lv_iconst (v := 0) hx hb dX3_pass_31 (by decide) ?_
      refine lv_istore_n (lv' := [(3, .int 0), (2, .int ((xu V 17 20 0) 17 19)), (0, .ref (ad 17)), (1, .int x)]) hx hb dX3_pass_32 rfl hl (by decide) rfl (fun ls hl => ?_)
      refine lv_aload_n hx hb dX3_pass_33 rfl (lv_at hl 2 rfl) ?_
      refine lv_dup hx hb dX3_pass_34 rfl ?_
      refine m_getI B G M hin 19 (by decide) (by decide +kernel) dX3_pass_35 ?_
      refine lv_iload_n hx hb dX3_pass_38 rfl (lv_at hl 3 rfl) ?_
      refine lv_iadd hx hb dX3_pass_39 ?_
      refine m_putI B G M hin 19 (by decide) (by decide +kernel) dX3_pass_40 (fun H locs G => ?_)
      refine lv_iconst (v := 0) hx hb dX3_pass_43 (by decide) ?_
      refine lv_istore (lv' := [(4, .int 0), (3, .int 0), (2, .int ((xu V 17 20 0) 17 19)), (0, .ref (ad 17)), (1, .int x)]) hx hb dX3_pass_44 hl (by decide) rfl (fun ls hl => ?_)
      have loop_46 : ∀ (f i : Nat), i ≤ cnt → cnt < i + f → ∀ (H : Heap) (locs : List Loc) (ls : Array Slot), xG D sh ad A s.heap (mPass (xu (xu V 17 20 0) 17 19 (V 17 19 + x)) (V 17 19) (V 17 19 + x) i) H locs → lv_has ls 6 [(0, .ref (ad 17)), (1, .int x), (2, .int (V 17 19)), (3, .int (nI (cntP (mGone (xu (xu V 17 20 0) 17 19 (V 17 19 + x)) (V 17 19) (V 17 19 + x)) i))), (4, .int (nI i))] → W p l e (rmK 2) s m args below meth c H locs 0 0 (xQi below D sh ad tys A args s (nI (cntP (mGone (xu (xu V 17 20 0) 17 19 (V 17 19 + x)) (V 17 19) (V 17 19 + x)) cnt)) (mPass (xu (xu V 17 20 0) 17 19 (V 17 19 + x)) (V 17 19) (V 17 19 + x) cnt)) (F0 m 46 ls []) := by
        intro f
        induction f with
        | zero => intro i h1 h2; exact absurd h2 (by omega)
        | succ f ih_46 =>
          intro i hi hf H locs ls G hl
          refine lv_iload hx hb dX3_pass_46 (lv_at hl 4 rfl) ?_
          refine lv_aload_n hx hb dX3_pass_48 rfl (lv_at hl 0 rfl) ?_
          refine m_getI B G M hin 17 (by decide) (by decide +kernel) dX3_pass_49 ?_
          refine x_top (show _ = nI cnt from (by rw [mPass_o _ _ _ _ (by decide) (by decide)]; exact hcnt)) ?_
          refine lv_icmp_ge (tgt := 142) hx hb dX3_pass_52 (by decide) (fun c_52 => ?_) (fun c_52 => ?_)
          · skip
            have c_52 : cnt ≤ i := (nI_leI (a := cnt) (b := i) (by omega) (by omega)).mp c_52
            refine lv_iload_n hx hb dX3_pass_142 rfl (lv_at hl 3 rfl) ?_
            exact x_iret B G (by rw [show i = cnt by omega]) (by rw [show i = cnt by omega]) dX3_pass_143
          · skip
            have c_52 : ¬ (cnt ≤ i) := fun h9 => c_52 ((nI_leI (a := cnt) (b := i) (by omega) (by omega)).mpr h9)
            have o_2 : (mPass (xu (xu V 17 20 0) 17 19 (V 17 19 + x)) (V 17 19) (V 17 19 + x) i) 2 = V 2 := mPass_o _ _ _ _ (by decide) (by decide)
            have o_4 : (mPass (xu (xu V 17 20 0) 17 19 (V 17 19 + x)) (V 17 19) (V 17 19 + x) i) 4 = V 4 := mPass_o _ _ _ _ (by decide) (by decide)
            have o_17 : (mPass (xu (xu V 17 20 0) 17 19 (V 17 19 + x)) (V 17 19) (V 17 19 + x) i) 17 = (xu (xu V 17 20 0) 17 19 (V 17 19 + x)) 17 := mPass_o _ _ _ _ (by decide) (by decide)
            refine lv_aload_n hx hb dX3_pass_55 rfl (lv_at hl 0 rfl) ?_
            refine m_getA B G M hin 2 (by decide) (by decide +kernel) dX3_pass_56 ?_
            refine lv_iload hx hb dX3_pass_59 (lv_at hl 4 rfl) ?_
            refine m_ald B G M 2 (by decide) i (show i < 40 by omega) rfl dX3_pass_61 ?_
            refine x_top (show _ = V 2 i from congrFun o_2 i) ?_
            refine lv_iload_n hx hb dX3_pass_62 rfl (lv_at hl 2 rfl) ?_
            refine lv_icmp_le (tgt := 136) hx hb dX3_pass_63 (by decide) (fun c_63 => ?_) (fun c_63 => ?_)
            · skip
              refine lv_iinc (v := nI (i + 1)) (lv' := [(4, .int (nI (i + 1))), (0, .ref (ad 17)), (1, .int x), (2, .int (V 17 19)), (3, .int (nI (cntP (mGone (xu (xu V 17 20 0) 17 19 (V 17 19 + x)) (V 17 19) (V 17 19 + x)) i)))]) hx hb dX3_pass_136 hl (k := 4) rfl (nI_add i 1) (by decide) rfl (fun ls hl => ?_)
              refine lv_goto (tgt := 46) hx hb dX3_pass_139 (by decide) ?_
              have hl := lv_sub (l' := [(0, .ref (ad 17)), (1, .int x), (2, .int (V 17 19)), (3, .int (nI (cntP (mGone (xu (xu V 17 20 0) 17 19 (V 17 19 + x)) (V 17 19) (V 17 19 + x)) i))), (4, .int (nI (i + 1)))]) hl [1, 2, 3, 4, 0] rfl
              have hl := lv_cast hl (congrArg (fun z : Int32 => ([(0, .ref (ad 17)), (1, .int x), (2, .int (V 17 19)), (3, .int z), (4, .int (nI (i + 1)))] : List (Nat × Value))) (show nI (cntP (mGone (xu (xu V 17 20 0) 17 19 (V 17 19 + x)) (V 17 19) (V 17 19 + x)) i) = nI (cntP (mGone (xu (xu V 17 20 0) 17 19 (V 17 19 + x)) (V 17 19) (V 17 19 + x)) (i + 1)) from congrArg nI (cntP_f (P := (mGone (xu (xu V 17 20 0) 17 19 (V 17 19 + x)) (V 17 19) (V 17 19 + x))) (fun y => (fun z => (of_decide_eq_true ((Bool.and_eq_true _ _ ▸ z : _ ∧ _).1)) c_63) ((Bool.and_eq_true _ _ ▸ y : _ ∧ _).1))).symm))
              have eV : mPass (xu (xu V 17 20 0) 17 19 (V 17 19 + x)) (V 17 19) (V 17 19 + x) i = mPass (xu (xu V 17 20 0) 17 19 (V 17 19 + x)) (V 17 19) (V 17 19 + x) (i + 1) := (if_neg (fun z => (of_decide_eq_true ((Bool.and_eq_true _ _ ▸ z : _ ∧ _).1)) c_63)).symm
              rw [eV] at G
              exact ih_46 (i + 1) (by omega) (by omega) _ _ _ G hl
            · skip
              have d_63 : ¬ V 2 i ≤ V 17 19 := c_63
              refine lv_aload_n hx hb dX3_pass_66 rfl (lv_at hl 0 rfl) ?_
              refine m_getA B G M hin 2 (by decide) (by decide +kernel) dX3_pass_67 ?_
              refine lv_iload hx hb dX3_pass_70 (lv_at hl 4 rfl) ?_
              refine m_ald B G M 2 (by decide) i (show i < 40 by omega) rfl dX3_pass_72 ?_
              refine x_top (show _ = V 2 i from congrFun o_2 i) ?_
              refine lv_aload_n hx hb dX3_pass_73 rfl (lv_at hl 0 rfl) ?_
              refine m_getI B G M hin 19 (by decide) (by decide +kernel) dX3_pass_74 ?_
              refine x_top (show _ = (V 17 19 + x) from (by rw [o_17]; rfl)) ?_
              refine lv_icmp_gt (tgt := 136) hx hb dX3_pass_77 (by decide) (fun c_77 => ?_) (fun c_77 => ?_)
              · skip
                refine lv_iinc (v := nI (i + 1)) (lv' := [(4, .int (nI (i + 1))), (0, .ref (ad 17)), (1, .int x), (2, .int (V 17 19)), (3, .int (nI (cntP (mGone (xu (xu V 17 20 0) 17 19 (V 17 19 + x)) (V 17 19) (V 17 19 + x)) i)))]) hx hb dX3_pass_136 hl (k := 4) rfl (nI_add i 1) (by decide) rfl (fun ls hl => ?_)
                refine lv_goto (tgt := 46) hx hb dX3_pass_139 (by decide) ?_
                have hl := lv_sub (l' := [(0, .ref (ad 17)), (1, .int x), (2, .int (V 17 19)), (3, .int (nI (cntP (mGone (xu (xu V 17 20 0) 17 19 (V 17 19 + x)) (V 17 19) (V 17 19 + x)) i))), (4, .int (nI (i + 1)))]) hl [1, 2, 3, 4, 0] rfl
                have hl := lv_cast hl (congrArg (fun z : Int32 => ([(0, .ref (ad 17)), (1, .int x), (2, .int (V 17 19)), (3, .int z), (4, .int (nI (i + 1)))] : List (Nat × Value))) (show nI (cntP (mGone (xu (xu V 17 20 0) 17 19 (V 17 19 + x)) (V 17 19) (V 17 19 + x)) i) = nI (cntP (mGone (xu (xu V 17 20 0) 17 19 (V 17 19 + x)) (V 17 19) (V 17 19 + x)) (i + 1)) from congrArg nI (cntP_f (P := (mGone (xu (xu V 17 20 0) 17 19 (V 17 19 + x)) (V 17 19) (V 17 19 + x))) (fun y => (fun z => (of_decide_eq_true ((Bool.and_eq_true _ _ ▸ z : _ ∧ _).2)) c_77) ((Bool.and_eq_true _ _ ▸ y : _ ∧ _).1))).symm))
                have eV : mPass (xu (xu V 17 20 0) 17 19 (V 17 19 + x)) (V 17 19) (V 17 19 + x) i = mPass (xu (xu V 17 20 0) 17 19 (V 17 19 + x)) (V 17 19) (V 17 19 + x) (i + 1) := (if_neg (fun z => (of_decide_eq_true ((Bool.and_eq_true _ _ ▸ z : _ ∧ _).2)) c_77)).symm
                rw [eV] at G
                exact ih_46 (i + 1) (by omega) (by omega) _ _ _ G hl
              · skip
                have d_77 : ¬ (V 17 19 + x) < V 2 i := c_77
                refine lv_iload_n hx hb dX3_pass_80 rfl (lv_at hl 3 rfl) ?_
                refine lv_aload_n hx hb dX3_pass_81 rfl (lv_at hl 0 rfl) ?_
                refine m_getA B G M hin 4 (by decide) (by decide +kernel) dX3_pass_82 ?_
                refine lv_iload hx hb dX3_pass_85 (lv_at hl 4 rfl) ?_
                refine m_ald B G M 4 (by decide) i (show i < 40 by omega) rfl dX3_pass_87 ?_
                refine x_top (show _ = V 4 i from congrFun o_4 i) ?_
                refine lv_if_ge (tgt := 95) hx hb dX3_pass_88 (by decide) (fun c_88 => ?_) (fun c_88 => ?_)
                · skip
                  have d_88 : 0 ≤ V 4 i := c_88
                  refine lv_iconst (v := 0) hx hb dX3_pass_95 (by decide) ?_
                  refine lv_iadd hx hb dX3_pass_96 ?_
                  refine x_top (show (nI (cntP (mGone (xu (xu V 17 20 0) 17 19 (V 17 19 + x)) (V 17 19) (V 17 19 + x)) i)) + 0 = nI ((cntP (mGone (xu (xu V 17 20 0) 17 19 (V 17 19 + x)) (V 17 19) (V 17 19 + x)) i) + 0) from nI_add (cntP (mGone (xu (xu V 17 20 0) 17 19 (V 17 19 + x)) (V 17 19) (V 17 19 + x)) i) 0) ?_
                  refine lv_istore_n (lv' := [(3, .int (nI ((cntP (mGone (xu (xu V 17 20 0) 17 19 (V 17 19 + x)) (V 17 19) (V 17 19 + x)) i) + 0))), (0, .ref (ad 17)), (1, .int x), (2, .int (V 17 19)), (4, .int (nI i))]) hx hb dX3_pass_97 rfl hl (by decide) rfl (fun ls hl => ?_)
                  refine lv_aload_n hx hb dX3_pass_98 rfl (lv_at hl 1 rfl) ?_
                  refine m_getA B G M hin 3 (by decide) (by decide +kernel) dX3_pass_99 ?_
                  refine lv_iload hx hb dX3_pass_102 (lv_at hl 4 rfl) ?_
                  refine lv_iconst (v := (-1)) hx hb dX3_pass_104 (by decide) ?_
                  refine m_ast B G M 3 (by decide) i (show i < 40 by omega) rfl dX3_pass_105 (fun H locs G => ?_)
                  refine lv_iconst (v := 0) hx hb dX3_pass_106 (by decide) ?_
                  refine lv_istore (lv' := [(5, .int 0), (3, .int (nI ((cntP (mGone (xu (xu V 17 20 0) 17 19 (V 17 19 + x)) (V 17 19) (V 17 19 + x)) i) + 0))), (0, .ref (ad 17)), (1, .int x), (2, .int (V 17 19)), (4, .int (nI i))]) hx hb dX3_pass_107 hl (by decide) rfl (fun ls hl => ?_)
                  have loop_109 : ∀ (f j : Nat), j ≤ 8 → 8 < j + f → ∀ (H : Heap) (locs : List Loc) (ls : Array Slot), xG D sh ad A s.heap (mWipe (xu (mPass (xu (xu V 17 20 0) 17 19 (V 17 19 + x)) (V 17 19) (V 17 19 + x) i) 3 i (-1)) i j) H locs → lv_has ls 6 [(0, .ref (ad 17)), (1, .int x), (2, .int (V 17 19)), (3, .int (nI ((cntP (mGone (xu (xu V 17 20 0) 17 19 (V 17 19 + x)) (V 17 19) (V 17 19 + x)) i) + 0))), (4, .int (nI i)), (5, .int (nI j))] → W p l e (rmK 2) s m args below meth c H locs 0 0 (xQi below D sh ad tys A args s (nI (cntP (mGone (xu (xu V 17 20 0) 17 19 (V 17 19 + x)) (V 17 19) (V 17 19 + x)) cnt)) (mPass (xu (xu V 17 20 0) 17 19 (V 17 19 + x)) (V 17 19) (V 17 19 + x) cnt)) (F0 m 109 ls []) := by
                    intro f
                    induction f with
                    | zero => intro j h1 h2; exact absurd h2 (by omega)
                    | succ f ih_109 =>
                      intro j hi hf H locs ls G hl
                      refine lv_iload hx hb dX3_pass_109 (lv_at hl 5 rfl) ?_
                      refine lv_bipush (v := 8) hx hb dX3_pass_111 (by decide) ?_
                      refine lv_icmp_ge (tgt := 136) hx hb dX3_pass_113 (by decide) (fun c_113 => ?_) (fun c_113 => ?_)
                      · skip
                        have c_113 : 8 ≤ j := (nI_leI (a := 8) (b := j) (by omega) (by omega)).mp c_113
                        have e_j : j = 8 := by omega
                        rw [e_j] at G
                        refine lv_iinc (v := nI (i + 1)) (lv' := [(4, .int (nI (i + 1))), (0, .ref (ad 17)), (1, .int x), (2, .int (V 17 19)), (3, .int (nI ((cntP (mGone (xu (xu V 17 20 0) 17 19 (V 17 19 + x)) (V 17 19) (V 17 19 + x)) i) + 0))), (5, .int (nI j))]) hx hb dX3_pass_136 hl (k := 4) rfl (nI_add i 1) (by decide) rfl (fun ls hl => ?_)
                        refine lv_goto (tgt := 46) hx hb dX3_pass_139 (by decide) ?_
                        have hl := lv_sub (l' := [(0, .ref (ad 17)), (1, .int x), (2, .int (V 17 19)), (3, .int (nI ((cntP (mGone (xu (xu V 17 20 0) 17 19 (V 17 19 + x)) (V 17 19) (V 17 19 + x)) i) + 0))), (4, .int (nI (i + 1)))]) hl [1, 2, 3, 4, 0] rfl
                        have hl := lv_cast hl (congrArg (fun z : Int32 => ([(0, .ref (ad 17)), (1, .int x), (2, .int (V 17 19)), (3, .int z), (4, .int (nI (i + 1)))] : List (Nat × Value))) (show nI ((cntP (mGone (xu (xu V 17 20 0) 17 19 (V 17 19 + x)) (V 17 19) (V 17 19 + x)) i) + 0) = nI (cntP (mGone (xu (xu V 17 20 0) 17 19 (V 17 19 + x)) (V 17 19) (V 17 19 + x)) (i + 1)) from congrArg nI (cntP_f (P := (mGone (xu (xu V 17 20 0) 17 19 (V 17 19 + x)) (V 17 19) (V 17 19 + x))) (fun y => (of_decide_eq_true ((Bool.and_eq_true _ _ ▸ y : _ ∧ _).2)) d_88)).symm))
                        have eV : mWipe (xu (mPass (xu (xu V 17 20 0) 17 19 (V 17 19 + x)) (V 17 19) (V 17 19 + x) i) 3 i (-1)) i 8 = mPass (xu (xu V 17 20 0) 17 19 (V 17 19 + x)) (V 17 19) (V 17 19 + x) (i + 1) := (if_pos (by unfold mOver; rw [Bool.and_eq_true]; exact ⟨decide_eq_true d_63, decide_eq_true d_77⟩)).symm
                        rw [eV] at G
                        exact ih_46 (i + 1) (by omega) (by omega) _ _ _ G hl
                      · skip
                        have c_113 : ¬ (8 ≤ j) := fun h9 => c_113 ((nI_leI (a := 8) (b := j) (by omega) (by omega)).mpr h9)
                        refine lv_aload_n hx hb dX3_pass_116 rfl (lv_at hl 0 rfl) ?_
                        refine m_getA B G M hin 6 (by decide) (by decide +kernel) dX3_pass_117 ?_
                        refine lv_bipush (v := 40) hx hb dX3_pass_120 (by decide) ?_
                        refine lv_iload hx hb dX3_pass_122 (lv_at hl 5 rfl) ?_
                        refine lv_imul hx hb dX3_pass_124 ?_
                        refine x_top (show 40 * (nI j) = nI (40 * j) from pk_mul 40 j) ?_
                        refine lv_iload hx hb dX3_pass_125 (lv_at hl 4 rfl) ?_
                        refine lv_iadd hx hb dX3_pass_127 ?_
                        refine x_top (show (nI (40 * j)) + (nI i) = nI ((40 * j) + i) from nI_add (40 * j) i) ?_
                        refine lv_iconst (v := 0) hx hb dX3_pass_128 (by decide) ?_
                        refine m_ast B G M 6 (by decide) ((40 * j) + i) (show ((40 * j) + i) < 320 by omega) rfl dX3_pass_129 (fun H locs G => ?_)
                        refine lv_iinc (v := nI (j + 1)) (lv' := [(5, .int (nI (j + 1))), (0, .ref (ad 17)), (1, .int x), (2, .int (V 17 19)), (3, .int (nI ((cntP (mGone (xu (xu V 17 20 0) 17 19 (V 17 19 + x)) (V 17 19) (V 17 19 + x)) i) + 0))), (4, .int (nI i))]) hx hb dX3_pass_130 hl (k := 5) rfl (nI_add j 1) (by decide) rfl (fun ls hl => ?_)
                        refine lv_goto (tgt := 109) hx hb dX3_pass_133 (by decide) ?_
                        have hl := lv_sub (l' := [(0, .ref (ad 17)), (1, .int x), (2, .int (V 17 19)), (3, .int (nI ((cntP (mGone (xu (xu V 17 20 0) 17 19 (V 17 19 + x)) (V 17 19) (V 17 19 + x)) i) + 0))), (4, .int (nI i)), (5, .int (nI (j + 1)))]) hl [1, 2, 3, 4, 5, 0] rfl
                        have eV : xu (mWipe (xu (mPass (xu (xu V 17 20 0) 17 19 (V 17 19 + x)) (V 17 19) (V 17 19 + x) i) 3 i (-1)) i j) 6 ((40 * j) + i) 0 = mWipe (xu (mPass (xu (xu V 17 20 0) 17 19 (V 17 19 + x)) (V 17 19) (V 17 19 + x) i) 3 i (-1)) i (j + 1) := rfl
                        rw [eV] at G
                        exact ih_109 (j + 1) (by omega) (by omega) _ _ _ G hl
                  have hl := lv_sub (l' := [(0, .ref (ad 17)), (1, .int x), (2, .int (V 17 19)), (3, .int (nI ((cntP (mGone (xu (xu V 17 20 0) 17 19 (V 17 19 + x)) (V 17 19) (V 17 19 + x)) i) + 0))), (4, .int (nI i)), (5, .int 0)]) hl [2, 3, 4, 1, 5, 0] rfl
                  have hl := lv_cast hl (congrArg (fun z : Int32 => ([(0, .ref (ad 17)), (1, .int x), (2, .int (V 17 19)), (3, .int (nI ((cntP (mGone (xu (xu V 17 20 0) 17 19 (V 17 19 + x)) (V 17 19) (V 17 19 + x)) i) + 0))), (4, .int (nI i)), (5, .int z)] : List (Nat × Value))) (show 0 = nI 0 from rfl))
                  have eV : xu (mPass (xu (xu V 17 20 0) 17 19 (V 17 19 + x)) (V 17 19) (V 17 19 + x) i) 3 i (-1) = mWipe (xu (mPass (xu (xu V 17 20 0) 17 19 (V 17 19 + x)) (V 17 19) (V 17 19 + x) i) 3 i (-1)) i 0 := rfl
                  rw [eV] at G
                  exact loop_109 (8 + 1) 0 (by omega) (by omega) _ _ _ G hl
                · skip
                  have d_88 : ¬ 0 ≤ V 4 i := c_88
                  refine lv_iconst (v := 1) hx hb dX3_pass_91 (by decide) ?_
                  refine lv_goto (tgt := 96) hx hb dX3_pass_92 (by decide) ?_
                  refine lv_iadd hx hb dX3_pass_96 ?_
                  refine x_top (show (nI (cntP (mGone (xu (xu V 17 20 0) 17 19 (V 17 19 + x)) (V 17 19) (V 17 19 + x)) i)) + 1 = nI ((cntP (mGone (xu (xu V 17 20 0) 17 19 (V 17 19 + x)) (V 17 19) (V 17 19 + x)) i) + 1) from nI_add (cntP (mGone (xu (xu V 17 20 0) 17 19 (V 17 19 + x)) (V 17 19) (V 17 19 + x)) i) 1) ?_
                  refine lv_istore_n (lv' := [(3, .int (nI ((cntP (mGone (xu (xu V 17 20 0) 17 19 (V 17 19 + x)) (V 17 19) (V 17 19 + x)) i) + 1))), (0, .ref (ad 17)), (1, .int x), (2, .int (V 17 19)), (4, .int (nI i))]) hx hb dX3_pass_97 rfl hl (by decide) rfl (fun ls hl => ?_)
                  refine lv_aload_n hx hb dX3_pass_98 rfl (lv_at hl 1 rfl) ?_
                  refine m_getA B G M hin 3 (by decide) (by decide +kernel) dX3_pass_99 ?_
                  refine lv_iload hx hb dX3_pass_102 (lv_at hl 4 rfl) ?_
                  refine lv_iconst (v := (-1)) hx hb dX3_pass_104 (by decide) ?_
                  refine m_ast B G M 3 (by decide) i (show i < 40 by omega) rfl dX3_pass_105 (fun H locs G => ?_)
                  refine lv_iconst (v := 0) hx hb dX3_pass_106 (by decide) ?_
                  refine lv_istore (lv' := [(5, .int 0), (3, .int (nI ((cntP (mGone (xu (xu V 17 20 0) 17 19 (V 17 19 + x)) (V 17 19) (V 17 19 + x)) i) + 1))), (0, .ref (ad 17)), (1, .int x), (2, .int (V 17 19)), (4, .int (nI i))]) hx hb dX3_pass_107 hl (by decide) rfl (fun ls hl => ?_)
                  have loop_109 : ∀ (f j : Nat), j ≤ 8 → 8 < j + f → ∀ (H : Heap) (locs : List Loc) (ls : Array Slot), xG D sh ad A s.heap (mWipe (xu (mPass (xu (xu V 17 20 0) 17 19 (V 17 19 + x)) (V 17 19) (V 17 19 + x) i) 3 i (-1)) i j) H locs → lv_has ls 6 [(0, .ref (ad 17)), (1, .int x), (2, .int (V 17 19)), (3, .int (nI ((cntP (mGone (xu (xu V 17 20 0) 17 19 (V 17 19 + x)) (V 17 19) (V 17 19 + x)) i) + 1))), (4, .int (nI i)), (5, .int (nI j))] → W p l e (rmK 2) s m args below meth c H locs 0 0 (xQi below D sh ad tys A args s (nI (cntP (mGone (xu (xu V 17 20 0) 17 19 (V 17 19 + x)) (V 17 19) (V 17 19 + x)) cnt)) (mPass (xu (xu V 17 20 0) 17 19 (V 17 19 + x)) (V 17 19) (V 17 19 + x) cnt)) (F0 m 109 ls []) := by
                    intro f
                    induction f with
                    | zero => intro j h1 h2; exact absurd h2 (by omega)
                    | succ f ih_109 =>
                      intro j hi hf H locs ls G hl
                      refine lv_iload hx hb dX3_pass_109 (lv_at hl 5 rfl) ?_
                      refine lv_bipush (v := 8) hx hb dX3_pass_111 (by decide) ?_
                      refine lv_icmp_ge (tgt := 136) hx hb dX3_pass_113 (by decide) (fun c_113 => ?_) (fun c_113 => ?_)
                      · skip
                        have c_113 : 8 ≤ j := (nI_leI (a := 8) (b := j) (by omega) (by omega)).mp c_113
                        have e_j : j = 8 := by omega
                        rw [e_j] at G
                        refine lv_iinc (v := nI (i + 1)) (lv' := [(4, .int (nI (i + 1))), (0, .ref (ad 17)), (1, .int x), (2, .int (V 17 19)), (3, .int (nI ((cntP (mGone (xu (xu V 17 20 0) 17 19 (V 17 19 + x)) (V 17 19) (V 17 19 + x)) i) + 1))), (5, .int (nI j))]) hx hb dX3_pass_136 hl (k := 4) rfl (nI_add i 1) (by decide) rfl (fun ls hl => ?_)
                        refine lv_goto (tgt := 46) hx hb dX3_pass_139 (by decide) ?_
                        have hl := lv_sub (l' := [(0, .ref (ad 17)), (1, .int x), (2, .int (V 17 19)), (3, .int (nI ((cntP (mGone (xu (xu V 17 20 0) 17 19 (V 17 19 + x)) (V 17 19) (V 17 19 + x)) i) + 1))), (4, .int (nI (i + 1)))]) hl [1, 2, 3, 4, 0] rfl
                        have hl := lv_cast hl (congrArg (fun z : Int32 => ([(0, .ref (ad 17)), (1, .int x), (2, .int (V 17 19)), (3, .int z), (4, .int (nI (i + 1)))] : List (Nat × Value))) (show nI ((cntP (mGone (xu (xu V 17 20 0) 17 19 (V 17 19 + x)) (V 17 19) (V 17 19 + x)) i) + 1) = nI (cntP (mGone (xu (xu V 17 20 0) 17 19 (V 17 19 + x)) (V 17 19) (V 17 19 + x)) (i + 1)) from congrArg nI (cntP_t (P := (mGone (xu (xu V 17 20 0) 17 19 (V 17 19 + x)) (V 17 19) (V 17 19 + x))) (by show (mOver _ _ _ _ && _) = true; rw [Bool.and_eq_true]; exact ⟨(by unfold mOver; rw [Bool.and_eq_true]; exact ⟨decide_eq_true d_63, decide_eq_true d_77⟩), decide_eq_true d_88⟩)).symm))
                        have eV : mWipe (xu (mPass (xu (xu V 17 20 0) 17 19 (V 17 19 + x)) (V 17 19) (V 17 19 + x) i) 3 i (-1)) i 8 = mPass (xu (xu V 17 20 0) 17 19 (V 17 19 + x)) (V 17 19) (V 17 19 + x) (i + 1) := (if_pos (by unfold mOver; rw [Bool.and_eq_true]; exact ⟨decide_eq_true d_63, decide_eq_true d_77⟩)).symm
                        rw [eV] at G
                        exact ih_46 (i + 1) (by omega) (by omega) _ _ _ G hl
                      · skip
                        have c_113 : ¬ (8 ≤ j) := fun h9 => c_113 ((nI_leI (a := 8) (b := j) (by omega) (by omega)).mpr h9)
                        refine lv_aload_n hx hb dX3_pass_116 rfl (lv_at hl 0 rfl) ?_
                        refine m_getA B G M hin 6 (by decide) (by decide +kernel) dX3_pass_117 ?_
                        refine lv_bipush (v := 40) hx hb dX3_pass_120 (by decide) ?_
                        refine lv_iload hx hb dX3_pass_122 (lv_at hl 5 rfl) ?_
                        refine lv_imul hx hb dX3_pass_124 ?_
                        refine x_top (show 40 * (nI j) = nI (40 * j) from pk_mul 40 j) ?_
                        refine lv_iload hx hb dX3_pass_125 (lv_at hl 4 rfl) ?_
                        refine lv_iadd hx hb dX3_pass_127 ?_
                        refine x_top (show (nI (40 * j)) + (nI i) = nI ((40 * j) + i) from nI_add (40 * j) i) ?_
                        refine lv_iconst (v := 0) hx hb dX3_pass_128 (by decide) ?_
                        refine m_ast B G M 6 (by decide) ((40 * j) + i) (show ((40 * j) + i) < 320 by omega) rfl dX3_pass_129 (fun H locs G => ?_)
                        refine lv_iinc (v := nI (j + 1)) (lv' := [(5, .int (nI (j + 1))), (0, .ref (ad 17)), (1, .int x), (2, .int (V 17 19)), (3, .int (nI ((cntP (mGone (xu (xu V 17 20 0) 17 19 (V 17 19 + x)) (V 17 19) (V 17 19 + x)) i) + 1))), (4, .int (nI i))]) hx hb dX3_pass_130 hl (k := 5) rfl (nI_add j 1) (by decide) rfl (fun ls hl => ?_)
                        refine lv_goto (tgt := 109) hx hb dX3_pass_133 (by decide) ?_
                        have hl := lv_sub (l' := [(0, .ref (ad 17)), (1, .int x), (2, .int (V 17 19)), (3, .int (nI ((cntP (mGone (xu (xu V 17 20 0) 17 19 (V 17 19 + x)) (V 17 19) (V 17 19 + x)) i) + 1))), (4, .int (nI i)), (5, .int (nI (j + 1)))]) hl [1, 2, 3, 4, 5, 0] rfl
                        have eV : xu (mWipe (xu (mPass (xu (xu V 17 20 0) 17 19 (V 17 19 + x)) (V 17 19) (V 17 19 + x) i) 3 i (-1)) i j) 6 ((40 * j) + i) 0 = mWipe (xu (mPass (xu (xu V 17 20 0) 17 19 (V 17 19 + x)) (V 17 19) (V 17 19 + x) i) 3 i (-1)) i (j + 1) := rfl
                        rw [eV] at G
                        exact ih_109 (j + 1) (by omega) (by omega) _ _ _ G hl
                  have hl := lv_sub (l' := [(0, .ref (ad 17)), (1, .int x), (2, .int (V 17 19)), (3, .int (nI ((cntP (mGone (xu (xu V 17 20 0) 17 19 (V 17 19 + x)) (V 17 19) (V 17 19 + x)) i) + 1))), (4, .int (nI i)), (5, .int 0)]) hl [2, 3, 4, 1, 5, 0] rfl
                  have hl := lv_cast hl (congrArg (fun z : Int32 => ([(0, .ref (ad 17)), (1, .int x), (2, .int (V 17 19)), (3, .int (nI ((cntP (mGone (xu (xu V 17 20 0) 17 19 (V 17 19 + x)) (V 17 19) (V 17 19 + x)) i) + 1))), (4, .int (nI i)), (5, .int z)] : List (Nat × Value))) (show 0 = nI 0 from rfl))
                  have eV : xu (mPass (xu (xu V 17 20 0) 17 19 (V 17 19 + x)) (V 17 19) (V 17 19 + x) i) 3 i (-1) = mWipe (xu (mPass (xu (xu V 17 20 0) 17 19 (V 17 19 + x)) (V 17 19) (V 17 19 + x) i) 3 i (-1)) i 0 := rfl
                  rw [eV] at G
                  exact loop_109 (8 + 1) 0 (by omega) (by omega) _ _ _ G hl
      have hl := lv_sub (l' := [(0, .ref (ad 17)), (1, .int x), (2, .int ((xu V 17 20 0) 17 19)), (3, .int 0), (4, .int 0)]) hl [3, 4, 2, 1, 0] rfl
      have hl := lv_cast hl (congrArg (fun z : Int32 => ([(0, .ref (ad 17)), (1, .int x), (2, .int z), (3, .int 0), (4, .int 0)] : List (Nat × Value))) (show (xu V 17 20 0) 17 19 = V 17 19 from rfl))
      have hl := lv_cast hl (congrArg (fun z : Int32 => ([(0, .ref (ad 17)), (1, .int x), (2, .int (V 17 19)), (3, .int z), (4, .int 0)] : List (Nat × Value))) (show 0 = nI (cntP (mGone (xu (xu V 17 20 0) 17 19 (V 17 19 + x)) (V 17 19) (V 17 19 + x)) 0) from rfl))
      have hl := lv_cast hl (congrArg (fun z : Int32 => ([(0, .ref (ad 17)), (1, .int x), (2, .int (V 17 19)), (3, .int (nI (cntP (mGone (xu (xu V 17 20 0) 17 19 (V 17 19 + x)) (V 17 19) (V 17 19 + x)) 0))), (4, .int z)] : List (Nat × Value))) (show 0 = nI 0 from rfl))
      have eV : xu (xu V 17 20 0) 17 19 (((xu V 17 20 0) 17 19) + x) = mPass (xu (xu V 17 20 0) 17 19 (V 17 19 + x)) (V 17 19) (V 17 19 + x) 0 := rfl
      rw [eV] at G
      exact loop_46 (cnt + 1) 0 (by omega) (by omega) _ _ _ G hl
    · exact False.elim (c_21 (by decide))
def mAhd (V : xV) (n k : Nat) (j : Nat) : Bool := mHas V n j && mPre V j k
def mFnd (V : xV) (n : Nat) (x : Int32) (cnt : Nat) : Nat → Int32
  | 0 => -1
  | k + 1 => if V 6 (40 * n + k) ≤ 0 then mFnd V n x cnt k else if nI (cntP (mAhd V n k) cnt) = x then nI k else mFnd V n x cnt k
set_option maxHeartbeats 4000000 in
set_option maxRecDepth 100000 in
theorem c_X3_heldAt_bad1 (l : Launch) {D : va_G} {sh : xS} {ad : Nat → Nat} {cI : ClassId} {tys : List (ClassId × FieldType)} (M : xMm sh ad cI tys) (V : xV) (z x : Int32) (h : ¬ (0 ≤ z ∧ z ≤ 7)) : xMi l yX3_heldAt wsX3_heldAt (rmK 2) D sh ad tys V [.ref (ad 17), .int z, .int x] (-1) (xu V 17 20 1) := by
  refine xOfi (cc := cX3_heldAt) (nL := 7) (ret := some .int) (own := RX3) (by decide) rfl rfl (Nat.le_of_ble_eq_true rfl) M.2.2 ?_
  intro p e s m args below meth c A ls B G hl
  have hx := B.1.1
  have hb := B.1.2.1
  have hin : ∀ w ∈ wsX30, w ∈ wsX3_heldAt := by decide +kernel
  have hl : lv_has ls 7 [(0, .ref (ad 17)), (1, .int z), (2, .int x)] := hl
  refine lv_aload_n hx hb dX3_heldAt_0 rfl (lv_at hl 0 rfl) ?_
  refine lv_aload_n hx hb dX3_heldAt_1 rfl (lv_at hl 0 rfl) ?_
  refine lv_iload_n hx hb dX3_heldAt_2 rfl (lv_at hl 1 rfl) ?_
  refine x_callVi (rest := [.ref (ad 17)]) B G (c_X3_isNode l M V z) (cwV 1 B.1.2.2.2.2 gX3_heldAt_X3_isNode rfl rfl rfl (by decide +kernel) ⟨Nat.le_of_ble_eq_true rfl, Nat.le_of_ble_eq_true rfl⟩) (m_recv B G M) rfl hl.1 rfl (Nat.le_of_ble_eq_true rfl) ⟨Nat.zero_le _, Nat.zero_le _⟩ dX3_heldAt_3 (fun H locs G => ?_)
  refine lv_if_eq (tgt := 29) hx hb dX3_heldAt_6 (by decide) (fun c_6 => ?_) (fun c_6 => ?_)
  · skip
    refine lv_iconst (v := 1) hx hb dX3_heldAt_29 (by decide) ?_
    refine x_callVi (rest := []) B G (c_X3_holds l M V 1) (cwV 1 B.1.2.2.2.2 gX3_heldAt_X3_holds rfl rfl rfl (by decide +kernel) ⟨Nat.le_of_ble_eq_true rfl, Nat.le_of_ble_eq_true rfl⟩) (m_recv B G M) rfl hl.1 rfl (Nat.le_of_ble_eq_true rfl) ⟨Nat.zero_le _, Nat.zero_le _⟩ dX3_heldAt_30 (fun H locs G => ?_)
    refine lv_if_eq (tgt := 38) hx hb dX3_heldAt_33 (by decide) (fun c_33 => ?_) (fun c_33 => ?_)
    · exact False.elim (absurd c_33 (by decide))
    · skip
      refine lv_iconst (v := (-1)) hx hb dX3_heldAt_36 (by decide) ?_
      exact x_iret B G (rfl) (rfl) dX3_heldAt_37
  · exact False.elim (c_6 (b2i_f (h)))
set_option maxHeartbeats 4000000 in
set_option maxRecDepth 100000 in
theorem c_X3_heldAt_bad2 (l : Launch) {D : va_G} {sh : xS} {ad : Nat → Nat} {cI : ClassId} {tys : List (ClassId × FieldType)} (M : xMm sh ad cI tys) (V : xV) (n cnt : Nat) (x : Int32) (hn : n < 8) (h : ¬ (0 ≤ x ∧ x ≤ nI (cntP (mHas V n) cnt) - 1)) (hcnt : V 17 17 = nI cnt) (hc40 : cnt ≤ 40) : xMi l yX3_heldAt wsX3_heldAt (rmK 2) D sh ad tys V [.ref (ad 17), .int (nI n), .int x] (-1) (xu V 17 20 1) := by
  refine xOfi (cc := cX3_heldAt) (nL := 7) (ret := some .int) (own := RX3) (by decide) rfl rfl (Nat.le_of_ble_eq_true rfl) M.2.2 ?_
  intro p e s m args below meth c A ls B G hl
  have hx := B.1.1
  have hb := B.1.2.1
  have hin : ∀ w ∈ wsX30, w ∈ wsX3_heldAt := by decide +kernel
  have hl : lv_has ls 7 [(0, .ref (ad 17)), (1, .int (nI n)), (2, .int x)] := hl
  refine lv_aload_n hx hb dX3_heldAt_0 rfl (lv_at hl 0 rfl) ?_
  refine lv_aload_n hx hb dX3_heldAt_1 rfl (lv_at hl 0 rfl) ?_
  refine lv_iload_n hx hb dX3_heldAt_2 rfl (lv_at hl 1 rfl) ?_
  refine x_callVi (rest := [.ref (ad 17)]) B G (c_X3_isNode l M V (nI n)) (cwV 1 B.1.2.2.2.2 gX3_heldAt_X3_isNode rfl rfl rfl (by decide +kernel) ⟨Nat.le_of_ble_eq_true rfl, Nat.le_of_ble_eq_true rfl⟩) (m_recv B G M) rfl hl.1 rfl (Nat.le_of_ble_eq_true rfl) ⟨Nat.zero_le _, Nat.zero_le _⟩ dX3_heldAt_3 (fun H locs G => ?_)
  refine lv_if_eq (tgt := 29) hx hb dX3_heldAt_6 (by decide) (fun c_6 => ?_) (fun c_6 => ?_)
  · exact False.elim (b2i_0.mp c_6 (nodeOK hn))
  · skip
    refine lv_aload_n hx hb dX3_heldAt_9 rfl (lv_at hl 0 rfl) ?_
    refine lv_iload_n hx hb dX3_heldAt_10 rfl (lv_at hl 2 rfl) ?_
    refine lv_iconst (v := 0) hx hb dX3_heldAt_11 (by decide) ?_
    refine lv_aload_n hx hb dX3_heldAt_12 rfl (lv_at hl 0 rfl) ?_
    refine lv_iload_n hx hb dX3_heldAt_13 rfl (lv_at hl 1 rfl) ?_
    refine x_callVi (rest := [.int 0, .int x, .ref (ad 17), .ref (ad 17)]) B G (c_X3_load l M V n cnt (by omega) hcnt hc40) (cwV 1 B.1.2.2.2.2 gX3_heldAt_X3_load rfl rfl rfl (by decide +kernel) ⟨Nat.le_of_ble_eq_true rfl, Nat.le_of_ble_eq_true rfl⟩) (m_recv B G M) rfl hl.1 rfl (Nat.le_of_ble_eq_true rfl) ⟨Nat.zero_le _, Nat.zero_le _⟩ dX3_heldAt_14 (fun H locs G => ?_)
    refine lv_iconst (v := 1) hx hb dX3_heldAt_17 (by decide) ?_
    refine lv_isub hx hb dX3_heldAt_18 ?_
    refine x_callVi (rest := [.ref (ad 17)]) B G (c_X3_between l M V x 0 ((nI (cntP (mHas V n) cnt)) - 1)) (cwV 3 B.1.2.2.2.2 gX3_heldAt_X3_between rfl rfl rfl (by decide +kernel) ⟨Nat.le_of_ble_eq_true rfl, Nat.le_of_ble_eq_true rfl⟩) (m_recv B G M) rfl hl.1 rfl (Nat.le_of_ble_eq_true rfl) ⟨Nat.zero_le _, Nat.zero_le _⟩ dX3_heldAt_19 (fun H locs G => ?_)
    refine lv_if_eq (tgt := 29) hx hb dX3_heldAt_22 (by decide) (fun c_22 => ?_) (fun c_22 => ?_)
    · skip
      refine lv_iconst (v := 1) hx hb dX3_heldAt_29 (by decide) ?_
      refine x_callVi (rest := []) B G (c_X3_holds l M V 1) (cwV 1 B.1.2.2.2.2 gX3_heldAt_X3_holds rfl rfl rfl (by decide +kernel) ⟨Nat.le_of_ble_eq_true rfl, Nat.le_of_ble_eq_true rfl⟩) (m_recv B G M) rfl hl.1 rfl (Nat.le_of_ble_eq_true rfl) ⟨Nat.zero_le _, Nat.zero_le _⟩ dX3_heldAt_30 (fun H locs G => ?_)
      refine lv_if_eq (tgt := 38) hx hb dX3_heldAt_33 (by decide) (fun c_33 => ?_) (fun c_33 => ?_)
      · exact False.elim (absurd c_33 (by decide))
      · skip
        refine lv_iconst (v := (-1)) hx hb dX3_heldAt_36 (by decide) ?_
        exact x_iret B G (rfl) (rfl) dX3_heldAt_37
    · exact False.elim (c_22 (b2i_f (h)))
set_option maxHeartbeats 4000000 in
set_option maxRecDepth 100000 in
theorem c_X3_heldAt_ok (l : Launch) {D : va_G} {sh : xS} {ad : Nat → Nat} {cI : ClassId} {tys : List (ClassId × FieldType)} (M : xMm sh ad cI tys) (V : xV) (n cnt : Nat) (x : Int32) (hn : n < 8) (h : 0 ≤ x ∧ x ≤ nI (cntP (mHas V n) cnt) - 1) (hcnt : V 17 17 = nI cnt) (hc40 : cnt ≤ 40) : xMi l yX3_heldAt wsX3_heldAt (rmK 2) D sh ad tys V [.ref (ad 17), .int (nI n), .int x] (mFnd V n x cnt cnt) (xu V 17 20 0) := by
  refine xOfi (cc := cX3_heldAt) (nL := 7) (ret := some .int) (own := RX3) (by decide) rfl rfl (Nat.le_of_ble_eq_true rfl) M.2.2 ?_
  intro p e s m args below meth c A ls B G hl
  have hx := B.1.1
  have hb := B.1.2.1
  have hin : ∀ w ∈ wsX30, w ∈ wsX3_heldAt := by decide +kernel
  have hl : lv_has ls 7 [(0, .ref (ad 17)), (1, .int (nI n)), (2, .int x)] := hl
  refine lv_aload_n hx hb dX3_heldAt_0 rfl (lv_at hl 0 rfl) ?_
  refine lv_aload_n hx hb dX3_heldAt_1 rfl (lv_at hl 0 rfl) ?_
  refine lv_iload_n hx hb dX3_heldAt_2 rfl (lv_at hl 1 rfl) ?_
  refine x_callVi (rest := [.ref (ad 17)]) B G (c_X3_isNode l M V (nI n)) (cwV 1 B.1.2.2.2.2 gX3_heldAt_X3_isNode rfl rfl rfl (by decide +kernel) ⟨Nat.le_of_ble_eq_true rfl, Nat.le_of_ble_eq_true rfl⟩) (m_recv B G M) rfl hl.1 rfl (Nat.le_of_ble_eq_true rfl) ⟨Nat.zero_le _, Nat.zero_le _⟩ dX3_heldAt_3 (fun H locs G => ?_)
  refine lv_if_eq (tgt := 29) hx hb dX3_heldAt_6 (by decide) (fun c_6 => ?_) (fun c_6 => ?_)
  · exact False.elim (b2i_0.mp c_6 (nodeOK hn))
  · skip
    refine lv_aload_n hx hb dX3_heldAt_9 rfl (lv_at hl 0 rfl) ?_
    refine lv_iload_n hx hb dX3_heldAt_10 rfl (lv_at hl 2 rfl) ?_
    refine lv_iconst (v := 0) hx hb dX3_heldAt_11 (by decide) ?_
    refine lv_aload_n hx hb dX3_heldAt_12 rfl (lv_at hl 0 rfl) ?_
    refine lv_iload_n hx hb dX3_heldAt_13 rfl (lv_at hl 1 rfl) ?_
    refine x_callVi (rest := [.int 0, .int x, .ref (ad 17), .ref (ad 17)]) B G (c_X3_load l M V n cnt (by omega) hcnt hc40) (cwV 1 B.1.2.2.2.2 gX3_heldAt_X3_load rfl rfl rfl (by decide +kernel) ⟨Nat.le_of_ble_eq_true rfl, Nat.le_of_ble_eq_true rfl⟩) (m_recv B G M) rfl hl.1 rfl (Nat.le_of_ble_eq_true rfl) ⟨Nat.zero_le _, Nat.zero_le _⟩ dX3_heldAt_14 (fun H locs G => ?_)
    refine lv_iconst (v := 1) hx hb dX3_heldAt_17 (by decide) ?_
    refine lv_isub hx hb dX3_heldAt_18 ?_
    refine x_callVi (rest := [.ref (ad 17)]) B G (c_X3_between l M V x 0 ((nI (cntP (mHas V n) cnt)) - 1)) (cwV 3 B.1.2.2.2.2 gX3_heldAt_X3_between rfl rfl rfl (by decide +kernel) ⟨Nat.le_of_ble_eq_true rfl, Nat.le_of_ble_eq_true rfl⟩) (m_recv B G M) rfl hl.1 rfl (Nat.le_of_ble_eq_true rfl) ⟨Nat.zero_le _, Nat.zero_le _⟩ dX3_heldAt_19 (fun H locs G => ?_)
    refine lv_if_eq (tgt := 29) hx hb dX3_heldAt_22 (by decide) (fun c_22 => ?_) (fun c_22 => ?_)
    · exact False.elim (b2i_0.mp c_22 (h))
    · skip
      refine lv_iconst (v := 0) hx hb dX3_heldAt_25 (by decide) ?_
      refine lv_goto (tgt := 30) hx hb dX3_heldAt_26 (by decide) ?_
      refine x_callVi (rest := []) B G (c_X3_holds l M V 0) (cwV 1 B.1.2.2.2.2 gX3_heldAt_X3_holds rfl rfl rfl (by decide +kernel) ⟨Nat.le_of_ble_eq_true rfl, Nat.le_of_ble_eq_true rfl⟩) (m_recv B G M) rfl hl.1 rfl (Nat.le_of_ble_eq_true rfl) ⟨Nat.zero_le _, Nat.zero_le _⟩ dX3_heldAt_30 (fun H locs G => ?_)
      refine lv_if_eq (tgt := 38) hx hb dX3_heldAt_33 (by decide) (fun c_33 => ?_) (fun c_33 => ?_)
      · skip
        refine lv_iconst (v := (-1)) hx hb dX3_heldAt_38 (by decide) ?_
        refine lv_istore_n (lv' := [(3, .int (-1)), (0, .ref (ad 17)), (1, .int (nI n)), (2, .int x)]) hx hb dX3_heldAt_39 rfl hl (by decide) rfl (fun ls hl => ?_)
        refine lv_iconst (v := 0) hx hb dX3_heldAt_40 (by decide) ?_
        refine lv_istore (lv' := [(4, .int 0), (3, .int (-1)), (0, .ref (ad 17)), (1, .int (nI n)), (2, .int x)]) hx hb dX3_heldAt_41 hl (by decide) rfl (fun ls hl => ?_)
        have loop_43 : ∀ (f i : Nat), i ≤ cnt → cnt < i + f → ∀ (H : Heap) (locs : List Loc) (ls : Array Slot), xG D sh ad A s.heap (xu V 17 20 0) H locs → lv_has ls 7 [(0, .ref (ad 17)), (1, .int (nI n)), (2, .int x), (3, .int (mFnd V n x cnt i)), (4, .int (nI i))] → W p l e (rmK 2) s m args below meth c H locs 0 0 (xQi below D sh ad tys A args s (mFnd V n x cnt cnt) (xu V 17 20 0)) (F0 m 43 ls []) := by
          intro f
          induction f with
          | zero => intro i h1 h2; exact absurd h2 (by omega)
          | succ f ih_43 =>
            intro i hi hf H locs ls G hl
            refine lv_iload hx hb dX3_heldAt_43 (lv_at hl 4 rfl) ?_
            refine lv_aload_n hx hb dX3_heldAt_45 rfl (lv_at hl 0 rfl) ?_
            refine m_getI B G M hin 17 (by decide) (by decide +kernel) dX3_heldAt_46 ?_
            refine x_top (show _ = nI cnt from hcnt) ?_
            refine lv_icmp_ge (tgt := 143) hx hb dX3_heldAt_49 (by decide) (fun c_49 => ?_) (fun c_49 => ?_)
            · skip
              have c_49 : cnt ≤ i := (nI_leI (a := cnt) (b := i) (by omega) (by omega)).mp c_49
              refine lv_iload_n hx hb dX3_heldAt_143 rfl (lv_at hl 3 rfl) ?_
              exact x_iret B G (by rw [show i = cnt by omega]) (rfl) dX3_heldAt_144
            · skip
              have c_49 : ¬ (cnt ≤ i) := fun h9 => c_49 ((nI_leI (a := cnt) (b := i) (by omega) (by omega)).mpr h9)
              refine lv_iconst (v := 0) hx hb dX3_heldAt_52 (by decide) ?_
              refine lv_istore (lv' := [(5, .int 0), (0, .ref (ad 17)), (1, .int (nI n)), (2, .int x), (3, .int (mFnd V n x cnt i)), (4, .int (nI i))]) hx hb dX3_heldAt_53 hl (by decide) rfl (fun ls hl => ?_)
              refine lv_iconst (v := 0) hx hb dX3_heldAt_55 (by decide) ?_
              refine lv_istore (lv' := [(6, .int 0), (5, .int 0), (0, .ref (ad 17)), (1, .int (nI n)), (2, .int x), (3, .int (mFnd V n x cnt i)), (4, .int (nI i))]) hx hb dX3_heldAt_56 hl (by decide) rfl (fun ls hl => ?_)
              have loop_58 : ∀ (f j : Nat), j ≤ cnt → cnt < j + f → ∀ (H : Heap) (locs : List Loc) (ls : Array Slot), xG D sh ad A s.heap (xu V 17 20 0) H locs → lv_has ls 7 [(0, .ref (ad 17)), (1, .int (nI n)), (2, .int x), (3, .int (mFnd V n x cnt i)), (4, .int (nI i)), (5, .int (nI (cntP (mAhd V n i) j))), (6, .int (nI j))] → W p l e (rmK 2) s m args below meth c H locs 0 0 (xQi below D sh ad tys A args s (mFnd V n x cnt cnt) (xu V 17 20 0)) (F0 m 58 ls []) := by
                intro f
                induction f with
                | zero => intro j h1 h2; exact absurd h2 (by omega)
                | succ f ih_58 =>
                  intro j hi hf H locs ls G hl
                  refine lv_iload hx hb dX3_heldAt_58 (lv_at hl 6 rfl) ?_
                  refine lv_aload_n hx hb dX3_heldAt_60 rfl (lv_at hl 0 rfl) ?_
                  refine m_getI B G M hin 17 (by decide) (by decide +kernel) dX3_heldAt_61 ?_
                  refine x_top (show _ = nI cnt from hcnt) ?_
                  refine lv_icmp_ge (tgt := 109) hx hb dX3_heldAt_64 (by decide) (fun c_64 => ?_) (fun c_64 => ?_)
                  · skip
                    have c_64 : cnt ≤ j := (nI_leI (a := cnt) (b := j) (by omega) (by omega)).mp c_64
                    have e_j : j = cnt := by omega
                    rw [e_j] at hl
                    refine lv_aload_n hx hb dX3_heldAt_109 rfl (lv_at hl 0 rfl) ?_
                    refine m_getA B G M hin 6 (by decide) (by decide +kernel) dX3_heldAt_110 ?_
                    refine lv_bipush (v := 40) hx hb dX3_heldAt_113 (by decide) ?_
                    refine lv_iload_n hx hb dX3_heldAt_115 rfl (lv_at hl 1 rfl) ?_
                    refine lv_imul hx hb dX3_heldAt_116 ?_
                    refine x_top (show 40 * (nI n) = nI (40 * n) from pk_mul 40 n) ?_
                    refine lv_iload hx hb dX3_heldAt_117 (lv_at hl 4 rfl) ?_
                    refine lv_iadd hx hb dX3_heldAt_119 ?_
                    refine x_top (show (nI (40 * n)) + (nI i) = nI ((40 * n) + i) from nI_add (40 * n) i) ?_
                    refine m_ald B G M 6 (by decide) ((40 * n) + i) (show ((40 * n) + i) < 320 by omega) rfl dX3_heldAt_120 ?_
                    refine lv_if_le (tgt := 135) hx hb dX3_heldAt_121 (by decide) (fun c_121 => ?_) (fun c_121 => ?_)
                    · skip
                      refine lv_iload_n hx hb dX3_heldAt_135 rfl (lv_at hl 3 rfl) ?_
                      refine lv_istore_n (lv' := [(3, .int (mFnd V n x cnt i)), (0, .ref (ad 17)), (1, .int (nI n)), (2, .int x), (4, .int (nI i)), (5, .int (nI (cntP (mAhd V n i) cnt))), (6, .int (nI cnt))]) hx hb dX3_heldAt_136 rfl hl (by decide) rfl (fun ls hl => ?_)
                      refine lv_iinc (v := nI (i + 1)) (lv' := [(4, .int (nI (i + 1))), (3, .int (mFnd V n x cnt i)), (0, .ref (ad 17)), (1, .int (nI n)), (2, .int x), (5, .int (nI (cntP (mAhd V n i) cnt))), (6, .int (nI cnt))]) hx hb dX3_heldAt_137 hl (k := 4) rfl (nI_add i 1) (by decide) rfl (fun ls hl => ?_)
                      refine lv_goto (tgt := 43) hx hb dX3_heldAt_140 (by decide) ?_
                      have hl := lv_sub (l' := [(0, .ref (ad 17)), (1, .int (nI n)), (2, .int x), (3, .int (mFnd V n x cnt i)), (4, .int (nI (i + 1)))]) hl [2, 3, 4, 1, 0] rfl
                      have hl := lv_cast hl (congrArg (fun z : Int32 => ([(0, .ref (ad 17)), (1, .int (nI n)), (2, .int x), (3, .int z), (4, .int (nI (i + 1)))] : List (Nat × Value))) (show mFnd V n x cnt i = mFnd V n x cnt (i + 1) from (if_pos c_121).symm))
                      exact ih_43 (i + 1) (by omega) (by omega) _ _ _ G hl
                    · skip
                      refine lv_iload hx hb dX3_heldAt_124 (lv_at hl 5 rfl) ?_
                      refine lv_iload_n hx hb dX3_heldAt_126 rfl (lv_at hl 2 rfl) ?_
                      refine lv_icmp_ne (tgt := 135) hx hb dX3_heldAt_127 (by decide) (fun c_127 => ?_) (fun c_127 => ?_)
                      · skip
                        refine lv_iload_n hx hb dX3_heldAt_135 rfl (lv_at hl 3 rfl) ?_
                        refine lv_istore_n (lv' := [(3, .int (mFnd V n x cnt i)), (0, .ref (ad 17)), (1, .int (nI n)), (2, .int x), (4, .int (nI i)), (5, .int (nI (cntP (mAhd V n i) cnt))), (6, .int (nI cnt))]) hx hb dX3_heldAt_136 rfl hl (by decide) rfl (fun ls hl => ?_)
                        refine lv_iinc (v := nI (i + 1)) (lv' := [(4, .int (nI (i + 1))), (3, .int (mFnd V n x cnt i)), (0, .ref (ad 17)), (1, .int (nI n)), (2, .int x), (5, .int (nI (cntP (mAhd V n i) cnt))), (6, .int (nI cnt))]) hx hb dX3_heldAt_137 hl (k := 4) rfl (nI_add i 1) (by decide) rfl (fun ls hl => ?_)
                        refine lv_goto (tgt := 43) hx hb dX3_heldAt_140 (by decide) ?_
                        have hl := lv_sub (l' := [(0, .ref (ad 17)), (1, .int (nI n)), (2, .int x), (3, .int (mFnd V n x cnt i)), (4, .int (nI (i + 1)))]) hl [2, 3, 4, 1, 0] rfl
                        have hl := lv_cast hl (congrArg (fun z : Int32 => ([(0, .ref (ad 17)), (1, .int (nI n)), (2, .int x), (3, .int z), (4, .int (nI (i + 1)))] : List (Nat × Value))) (show mFnd V n x cnt i = mFnd V n x cnt (i + 1) from ((if_neg c_121).trans (if_neg c_127)).symm))
                        exact ih_43 (i + 1) (by omega) (by omega) _ _ _ G hl
                      · skip
                        refine lv_iload hx hb dX3_heldAt_130 (lv_at hl 4 rfl) ?_
                        refine lv_goto (tgt := 136) hx hb dX3_heldAt_132 (by decide) ?_
                        refine lv_istore_n (lv' := [(3, .int (nI i)), (0, .ref (ad 17)), (1, .int (nI n)), (2, .int x), (4, .int (nI i)), (5, .int (nI (cntP (mAhd V n i) cnt))), (6, .int (nI cnt))]) hx hb dX3_heldAt_136 rfl hl (by decide) rfl (fun ls hl => ?_)
                        refine lv_iinc (v := nI (i + 1)) (lv' := [(4, .int (nI (i + 1))), (3, .int (nI i)), (0, .ref (ad 17)), (1, .int (nI n)), (2, .int x), (5, .int (nI (cntP (mAhd V n i) cnt))), (6, .int (nI cnt))]) hx hb dX3_heldAt_137 hl (k := 4) rfl (nI_add i 1) (by decide) rfl (fun ls hl => ?_)
                        refine lv_goto (tgt := 43) hx hb dX3_heldAt_140 (by decide) ?_
                        have hl := lv_sub (l' := [(0, .ref (ad 17)), (1, .int (nI n)), (2, .int x), (3, .int (nI i)), (4, .int (nI (i + 1)))]) hl [2, 3, 4, 1, 0] rfl
                        have hl := lv_cast hl (congrArg (fun z : Int32 => ([(0, .ref (ad 17)), (1, .int (nI n)), (2, .int x), (3, .int z), (4, .int (nI (i + 1)))] : List (Nat × Value))) (show nI i = mFnd V n x cnt (i + 1) from ((if_neg c_121).trans (if_pos c_127)).symm))
                        exact ih_43 (i + 1) (by omega) (by omega) _ _ _ G hl
                  · skip
                    have c_64 : ¬ (cnt ≤ j) := fun h9 => c_64 ((nI_leI (a := cnt) (b := j) (by omega) (by omega)).mpr h9)
                    refine lv_iload hx hb dX3_heldAt_67 (lv_at hl 5 rfl) ?_
                    refine lv_aload_n hx hb dX3_heldAt_69 rfl (lv_at hl 0 rfl) ?_
                    refine m_getA B G M hin 6 (by decide) (by decide +kernel) dX3_heldAt_70 ?_
                    refine lv_bipush (v := 40) hx hb dX3_heldAt_73 (by decide) ?_
                    refine lv_iload_n hx hb dX3_heldAt_75 rfl (lv_at hl 1 rfl) ?_
                    refine lv_imul hx hb dX3_heldAt_76 ?_
                    refine x_top (show 40 * (nI n) = nI (40 * n) from pk_mul 40 n) ?_
                    refine lv_iload hx hb dX3_heldAt_77 (lv_at hl 6 rfl) ?_
                    refine lv_iadd hx hb dX3_heldAt_79 ?_
                    refine x_top (show (nI (40 * n)) + (nI j) = nI ((40 * n) + j) from nI_add (40 * n) j) ?_
                    refine m_ald B G M 6 (by decide) ((40 * n) + j) (show ((40 * n) + j) < 320 by omega) rfl dX3_heldAt_80 ?_
                    refine lv_if_le (tgt := 99) hx hb dX3_heldAt_81 (by decide) (fun c_81 => ?_) (fun c_81 => ?_)
                    · skip
                      refine lv_iconst (v := 0) hx hb dX3_heldAt_99 (by decide) ?_
                      refine lv_iadd hx hb dX3_heldAt_100 ?_
                      refine x_top (show (nI (cntP (mAhd V n i) j)) + 0 = nI ((cntP (mAhd V n i) j) + 0) from nI_add (cntP (mAhd V n i) j) 0) ?_
                      refine lv_istore (lv' := [(5, .int (nI ((cntP (mAhd V n i) j) + 0))), (0, .ref (ad 17)), (1, .int (nI n)), (2, .int x), (3, .int (mFnd V n x cnt i)), (4, .int (nI i)), (6, .int (nI j))]) hx hb dX3_heldAt_101 hl (by decide) rfl (fun ls hl => ?_)
                      refine lv_iinc (v := nI (j + 1)) (lv' := [(6, .int (nI (j + 1))), (5, .int (nI ((cntP (mAhd V n i) j) + 0))), (0, .ref (ad 17)), (1, .int (nI n)), (2, .int x), (3, .int (mFnd V n x cnt i)), (4, .int (nI i))]) hx hb dX3_heldAt_103 hl (k := 6) rfl (nI_add j 1) (by decide) rfl (fun ls hl => ?_)
                      refine lv_goto (tgt := 58) hx hb dX3_heldAt_106 (by decide) ?_
                      have hl := lv_sub (l' := [(0, .ref (ad 17)), (1, .int (nI n)), (2, .int x), (3, .int (mFnd V n x cnt i)), (4, .int (nI i)), (5, .int (nI ((cntP (mAhd V n i) j) + 0))), (6, .int (nI (j + 1)))]) hl [2, 3, 4, 5, 6, 1, 0] rfl
                      have hl := lv_cast hl (congrArg (fun z : Int32 => ([(0, .ref (ad 17)), (1, .int (nI n)), (2, .int x), (3, .int (mFnd V n x cnt i)), (4, .int (nI i)), (5, .int z), (6, .int (nI (j + 1)))] : List (Nat × Value))) (show nI ((cntP (mAhd V n i) j) + 0) = nI (cntP (mAhd V n i) (j + 1)) from congrArg nI (cntP_f (P := mAhd V n i) (fun y => mHas_f (V := V) c_81 ((Bool.and_eq_true _ _ ▸ y : _ ∧ _).1))).symm))
                      exact ih_58 (j + 1) (by omega) (by omega) _ _ _ G hl
                    · skip
                      refine lv_aload_n hx hb dX3_heldAt_84 rfl (lv_at hl 0 rfl) ?_
                      refine lv_iload hx hb dX3_heldAt_85 (lv_at hl 6 rfl) ?_
                      refine lv_iload hx hb dX3_heldAt_87 (lv_at hl 4 rfl) ?_
                      refine x_callVi (rest := [.int (nI (cntP (mAhd V n i) j))]) B G (c_X3_precedes l M (xu V 17 20 0) j i (by omega) (by omega)) (cwV 2 B.1.2.2.2.2 gX3_heldAt_X3_precedes rfl rfl rfl (by decide +kernel) ⟨Nat.le_of_ble_eq_true rfl, Nat.le_of_ble_eq_true rfl⟩) (m_recv B G M) rfl hl.1 rfl (Nat.le_of_ble_eq_true rfl) ⟨Nat.zero_le _, Nat.zero_le _⟩ dX3_heldAt_89 (fun H locs G => ?_)
                      refine lv_if_eq (tgt := 99) hx hb dX3_heldAt_92 (by decide) (fun c_92 => ?_) (fun c_92 => ?_)
                      · skip
                        refine lv_iconst (v := 0) hx hb dX3_heldAt_99 (by decide) ?_
                        refine lv_iadd hx hb dX3_heldAt_100 ?_
                        refine x_top (show (nI (cntP (mAhd V n i) j)) + 0 = nI ((cntP (mAhd V n i) j) + 0) from nI_add (cntP (mAhd V n i) j) 0) ?_
                        refine lv_istore (lv' := [(5, .int (nI ((cntP (mAhd V n i) j) + 0))), (0, .ref (ad 17)), (1, .int (nI n)), (2, .int x), (3, .int (mFnd V n x cnt i)), (4, .int (nI i)), (6, .int (nI j))]) hx hb dX3_heldAt_101 hl (by decide) rfl (fun ls hl => ?_)
                        refine lv_iinc (v := nI (j + 1)) (lv' := [(6, .int (nI (j + 1))), (5, .int (nI ((cntP (mAhd V n i) j) + 0))), (0, .ref (ad 17)), (1, .int (nI n)), (2, .int x), (3, .int (mFnd V n x cnt i)), (4, .int (nI i))]) hx hb dX3_heldAt_103 hl (k := 6) rfl (nI_add j 1) (by decide) rfl (fun ls hl => ?_)
                        refine lv_goto (tgt := 58) hx hb dX3_heldAt_106 (by decide) ?_
                        have hl := lv_sub (l' := [(0, .ref (ad 17)), (1, .int (nI n)), (2, .int x), (3, .int (mFnd V n x cnt i)), (4, .int (nI i)), (5, .int (nI ((cntP (mAhd V n i) j) + 0))), (6, .int (nI (j + 1)))]) hl [2, 3, 4, 5, 6, 1, 0] rfl
                        have hl := lv_cast hl (congrArg (fun z : Int32 => ([(0, .ref (ad 17)), (1, .int (nI n)), (2, .int x), (3, .int (mFnd V n x cnt i)), (4, .int (nI i)), (5, .int z), (6, .int (nI (j + 1)))] : List (Nat × Value))) (show nI ((cntP (mAhd V n i) j) + 0) = nI (cntP (mAhd V n i) (j + 1)) from congrArg nI (cntP_f (P := mAhd V n i) (fun y => b2i_0.mp c_92 ((Bool.and_eq_true _ _ ▸ y : _ ∧ _).2))).symm))
                        exact ih_58 (j + 1) (by omega) (by omega) _ _ _ G hl
                      · skip
                        refine lv_iconst (v := 1) hx hb dX3_heldAt_95 (by decide) ?_
                        refine lv_goto (tgt := 100) hx hb dX3_heldAt_96 (by decide) ?_
                        refine lv_iadd hx hb dX3_heldAt_100 ?_
                        refine x_top (show (nI (cntP (mAhd V n i) j)) + 1 = nI ((cntP (mAhd V n i) j) + 1) from nI_add (cntP (mAhd V n i) j) 1) ?_
                        refine lv_istore (lv' := [(5, .int (nI ((cntP (mAhd V n i) j) + 1))), (0, .ref (ad 17)), (1, .int (nI n)), (2, .int x), (3, .int (mFnd V n x cnt i)), (4, .int (nI i)), (6, .int (nI j))]) hx hb dX3_heldAt_101 hl (by decide) rfl (fun ls hl => ?_)
                        refine lv_iinc (v := nI (j + 1)) (lv' := [(6, .int (nI (j + 1))), (5, .int (nI ((cntP (mAhd V n i) j) + 1))), (0, .ref (ad 17)), (1, .int (nI n)), (2, .int x), (3, .int (mFnd V n x cnt i)), (4, .int (nI i))]) hx hb dX3_heldAt_103 hl (k := 6) rfl (nI_add j 1) (by decide) rfl (fun ls hl => ?_)
                        refine lv_goto (tgt := 58) hx hb dX3_heldAt_106 (by decide) ?_
                        have hl := lv_sub (l' := [(0, .ref (ad 17)), (1, .int (nI n)), (2, .int x), (3, .int (mFnd V n x cnt i)), (4, .int (nI i)), (5, .int (nI ((cntP (mAhd V n i) j) + 1))), (6, .int (nI (j + 1)))]) hl [2, 3, 4, 5, 6, 1, 0] rfl
                        have hl := lv_cast hl (congrArg (fun z : Int32 => ([(0, .ref (ad 17)), (1, .int (nI n)), (2, .int x), (3, .int (mFnd V n x cnt i)), (4, .int (nI i)), (5, .int z), (6, .int (nI (j + 1)))] : List (Nat × Value))) (show nI ((cntP (mAhd V n i) j) + 1) = nI (cntP (mAhd V n i) (j + 1)) from congrArg nI (cntP_t (P := mAhd V n i) (by show (mHas V n j && mPre V j i) = true; rw [Bool.and_eq_true]; exact ⟨mHas_t (V := V) c_81, b2i_1 c_92⟩)).symm))
                        exact ih_58 (j + 1) (by omega) (by omega) _ _ _ G hl
              have hl := lv_sub (l' := [(0, .ref (ad 17)), (1, .int (nI n)), (2, .int x), (3, .int (mFnd V n x cnt i)), (4, .int (nI i)), (5, .int 0), (6, .int 0)]) hl [2, 3, 4, 5, 6, 1, 0] rfl
              have hl := lv_cast hl (congrArg (fun z : Int32 => ([(0, .ref (ad 17)), (1, .int (nI n)), (2, .int x), (3, .int (mFnd V n x cnt i)), (4, .int (nI i)), (5, .int z), (6, .int 0)] : List (Nat × Value))) (show 0 = nI (cntP (mAhd V n i) 0) from rfl))
              have hl := lv_cast hl (congrArg (fun z : Int32 => ([(0, .ref (ad 17)), (1, .int (nI n)), (2, .int x), (3, .int (mFnd V n x cnt i)), (4, .int (nI i)), (5, .int (nI (cntP (mAhd V n i) 0))), (6, .int z)] : List (Nat × Value))) (show 0 = nI 0 from rfl))
              exact loop_58 (cnt + 1) 0 (by omega) (by omega) _ _ _ G hl
        have hl := lv_sub (l' := [(0, .ref (ad 17)), (1, .int (nI n)), (2, .int x), (3, .int (-1)), (4, .int 0)]) hl [2, 3, 4, 1, 0] rfl
        have hl := lv_cast hl (congrArg (fun z : Int32 => ([(0, .ref (ad 17)), (1, .int (nI n)), (2, .int x), (3, .int z), (4, .int 0)] : List (Nat × Value))) (show (-1) = mFnd V n x cnt 0 from rfl))
        have hl := lv_cast hl (congrArg (fun z : Int32 => ([(0, .ref (ad 17)), (1, .int (nI n)), (2, .int x), (3, .int (mFnd V n x cnt 0)), (4, .int z)] : List (Nat × Value))) (show 0 = nI 0 from rfl))
        exact loop_43 (cnt + 1) 0 (by omega) (by omega) _ _ _ G hl
      · exact False.elim (c_33 (by decide))
