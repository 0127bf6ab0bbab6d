def mUse (V : xV) (k : Nat) (x : Int32) : Int32 := if (if x ≤ V 12 (4 * k + 2) then V 12 (4 * k + 2) else x) ≤ V 12 (4 * k + 3) then (if x ≤ V 12 (4 * k + 2) then V 12 (4 * k + 2) else x) else -1
set_option maxHeartbeats 4000000 in
set_option maxRecDepth 100000 in
theorem c_X3_use (l : Launch) {D : va_G} {sh : xS} {ad : Nat → Nat} {cI : ClassId} {tys : List (ClassId × FieldType)} (M : xMm sh ad cI tys) (V : xV) (k : Nat) (x : Int32) (hk : k < 30) : xMi l yX3_use wsX3_use (rmK 0) D sh ad tys V [.ref (ad 17), .int (nI k), .int x] (mUse V k x) V := by
  refine xOfi (cc := cX3_use) (nL := 5) (ret := some .int) (own := RX3) (by decide) rfl rfl (Nat.le_of_ble_eq_true rfl) M.2.2 ?_
  intro p e s m args below meth c A ls B G hl
  have hx := B.1.1
  have hb := B.1.2.1
  have hin : ∀ w ∈ wsX30, w ∈ wsX3_use := by decide +kernel
  have hl : lv_has ls 5 [(0, .ref (ad 17)), (1, .int (nI k)), (2, .int x)] := hl
  refine lv_aload_n hx hb dX3_use_0 rfl (lv_at hl 0 rfl) ?_
  refine m_getA B G M hin 12 (by decide) (by decide +kernel) dX3_use_1 ?_
  refine lv_iconst (v := 4) hx hb dX3_use_4 (by decide) ?_
  refine lv_iload_n hx hb dX3_use_5 rfl (lv_at hl 1 rfl) ?_
  refine lv_imul hx hb dX3_use_6 ?_
  refine x_top (show 4 * (nI k) = nI (4 * k) from pk_mul 4 k) ?_
  refine lv_iconst (v := 2) hx hb dX3_use_7 (by decide) ?_
  refine lv_iadd hx hb dX3_use_8 ?_
  refine x_top (show (nI (4 * k)) + 2 = nI ((4 * k) + 2) from nI_add (4 * k) 2) ?_
  refine m_ald B G M 12 (by decide) ((4 * k) + 2) (show ((4 * k) + 2) < 120 by omega) rfl dX3_use_9 ?_
  refine lv_istore_n (lv' := [(3, .int (V 12 ((4 * k) + 2))), (0, .ref (ad 17)), (1, .int (nI k)), (2, .int x)]) hx hb dX3_use_10 rfl hl (by decide) rfl (fun ls hl => ?_)
  refine lv_iload_n hx hb dX3_use_11 rfl (lv_at hl 3 rfl) ?_
  refine lv_iload_n hx hb dX3_use_12 rfl (lv_at hl 0 rfl) ?_
  refine lv_icmp_le (tgt := 20) hx hb dX3_use_13 (by decide) (fun c_13 => ?_) (fun c_13 => ?_)
  · skip
    refine lv_iload_n hx hb dX3_use_20 rfl (lv_at hl 0 rfl) ?_
    refine lv_istore (lv' := [(4, .int (V 12 ((4 * k) + 2))), (3, .int (V 12 ((4 * k) + 2))), (0, .ref (ad 17)), (1, .int (nI k)), (2, .int x)]) hx hb dX3_use_21 hl (by decide) rfl (fun ls hl => ?_)
    refine lv_iload hx hb dX3_use_23 (lv_at hl 0 rfl) ?_
    refine lv_aload_n hx hb dX3_use_25 rfl (lv_at hl 2 rfl) ?_
    refine m_getA B G M hin 12 (by decide) (by decide +kernel) dX3_use_26 ?_
    refine lv_iconst (v := 4) hx hb dX3_use_29 (by decide) ?_
    refine lv_iload_n hx hb dX3_use_30 rfl (lv_at hl 3 rfl) ?_
    refine lv_imul hx hb dX3_use_31 ?_
    refine x_top (show 4 * (nI k) = nI (4 * k) from pk_mul 4 k) ?_
    refine lv_iconst (v := 3) hx hb dX3_use_32 (by decide) ?_
    refine lv_iadd hx hb dX3_use_33 ?_
    refine x_top (show (nI (4 * k)) + 3 = nI ((4 * k) + 3) from nI_add (4 * k) 3) ?_
    refine m_ald B G M 12 (by decide) ((4 * k) + 3) (show ((4 * k) + 3) < 120 by omega) rfl dX3_use_34 ?_
    refine lv_icmp_gt (tgt := 43) hx hb dX3_use_35 (by decide) (fun c_35 => ?_) (fun c_35 => ?_)
    · skip
      refine lv_iconst (v := (-1)) hx hb dX3_use_43 (by decide) ?_
      exact x_iret B G (by unfold mUse; rw [if_pos c_13]; exact (if_neg (i_nle.mpr c_35)).symm) (rfl) dX3_use_44
    · skip
      refine lv_iload hx hb dX3_use_38 (lv_at hl 0 rfl) ?_
      refine lv_goto (tgt := 44) hx hb dX3_use_40 (by decide) ?_
      exact x_iret B G (by unfold mUse; rw [if_pos c_13]; exact (if_pos (i_nlt.mp c_35)).symm) (rfl) dX3_use_44
  · skip
    refine lv_iload_n hx hb dX3_use_16 rfl (lv_at hl 3 rfl) ?_
    refine lv_goto (tgt := 21) hx hb dX3_use_17 (by decide) ?_
    refine lv_istore (lv' := [(4, .int x), (3, .int (V 12 ((4 * k) + 2))), (0, .ref (ad 17)), (1, .int (nI k)), (2, .int x)]) hx hb dX3_use_21 hl (by decide) rfl (fun ls hl => ?_)
    refine lv_iload hx hb dX3_use_23 (lv_at hl 0 rfl) ?_
    refine lv_aload_n hx hb dX3_use_25 rfl (lv_at hl 2 rfl) ?_
    refine m_getA B G M hin 12 (by decide) (by decide +kernel) dX3_use_26 ?_
    refine lv_iconst (v := 4) hx hb dX3_use_29 (by decide) ?_
    refine lv_iload_n hx hb dX3_use_30 rfl (lv_at hl 3 rfl) ?_
    refine lv_imul hx hb dX3_use_31 ?_
    refine x_top (show 4 * (nI k) = nI (4 * k) from pk_mul 4 k) ?_
    refine lv_iconst (v := 3) hx hb dX3_use_32 (by decide) ?_
    refine lv_iadd hx hb dX3_use_33 ?_
    refine x_top (show (nI (4 * k)) + 3 = nI ((4 * k) + 3) from nI_add (4 * k) 3) ?_
    refine m_ald B G M 12 (by decide) ((4 * k) + 3) (show ((4 * k) + 3) < 120 by omega) rfl dX3_use_34 ?_
    refine lv_icmp_gt (tgt := 43) hx hb dX3_use_35 (by decide) (fun c_35 => ?_) (fun c_35 => ?_)
    · skip
      refine lv_iconst (v := (-1)) hx hb dX3_use_43 (by decide) ?_
      exact x_iret B G (by unfold mUse; rw [if_neg c_13]; exact (if_neg (i_nle.mpr c_35)).symm) (rfl) dX3_use_44
    · skip
      refine lv_iload hx hb dX3_use_38 (lv_at hl 0 rfl) ?_
      refine lv_goto (tgt := 44) hx hb dX3_use_40 (by decide) ?_
      exact x_iret B G (by unfold mUse; rw [if_neg c_13]; exact (if_pos (i_nlt.mp c_35)).symm) (rfl) dX3_use_44
def mBeg (V : xV) (n i : Nat) : xV := fun j => if j = 15 then (fun x => if x < i then (if x = n then V 17 19 else -1) else V 15 x) else if j = 16 then (fun x => if x < i then 0 else V 16 x) else V j
theorem mBeg_s (V : xV) (n i : Nat) {v : Int32} (hv : v = if i = n then V 17 19 else -1) : xu (xu (mBeg V n i) 15 i v) 16 i 0 = mBeg V n (i + 1) := by
  subst hv
  funext j x
  unfold xu upd mBeg
  by_cases h15 : j = 15
  · subst h15
    simp only [if_true, show ¬ (15 : Nat) = 16 by decide, if_false]
    by_cases hx : x = i
    · subst hx; simp
    · simp only [hx, if_false]
      by_cases hl : x < i
      · simp only [if_pos hl, if_pos (show x < i + 1 by omega)]
      · simp only [if_neg hl, if_neg (show ¬ x < i + 1 by omega)]
  · by_cases h16 : j = 16
    · subst h16
      simp only [if_true, show ¬ (16 : Nat) = 15 by decide, if_false]
      by_cases hx : x = i
      · subst hx; simp
      · simp only [hx, if_false]
        by_cases hl : x < i
        · simp only [if_pos hl, if_pos (show x < i + 1 by omega)]
        · simp only [if_neg hl, if_neg (show ¬ x < i + 1 by omega)]
    · simp only [h15, h16, if_false]
theorem mBeg_0 (V : xV) (n : Nat) : mBeg V n 0 = V := by
  funext j x
  unfold mBeg
  by_cases h15 : j = 15
  · subst h15; simp
  · by_cases h16 : j = 16
    · subst h16; simp
    · simp [h15, h16]
theorem mBeg_o (V : xV) (n i : Nat) {j : Nat} (h15 : j ≠ 15) (h16 : j ≠ 16) : mBeg V n i j = V j := by unfold mBeg; rw [if_neg h15, if_neg h16]
set_option maxHeartbeats 4000000 in
set_option maxRecDepth 100000 in
theorem c_X3_begin (l : Launch) {D : va_G} {sh : xS} {ad : Nat → Nat} {cI : ClassId} {tys : List (ClassId × FieldType)} (M : xMm sh ad cI tys) (V : xV) (n : Nat) (hn : n < 8) : xMv l yX3_begin wsX3_begin (rmK 0) D sh ad tys V [.ref (ad 17), .int (nI n)] (mBeg V n 8) := by
  refine xOfv (cc := cX3_begin) (nL := 3) (ret := none) (own := RX3) (by decide) rfl rfl (Nat.le_of_ble_eq_true rfl) M.2.2 ?_
  intro p e s m args below meth c A ls B G hl
  have hx := B.1.1
  have hb := B.1.2.1
  have hin : ∀ w ∈ wsX30, w ∈ wsX3_begin := by decide +kernel
  have hl : lv_has ls 3 [(0, .ref (ad 17)), (1, .int (nI n))] := hl
  refine lv_iconst (v := 0) hx hb dX3_begin_0 (by decide) ?_
  refine lv_istore_n (lv' := [(2, .int 0), (0, .ref (ad 17)), (1, .int (nI n))]) hx hb dX3_begin_1 rfl hl (by decide) rfl (fun ls hl => ?_)
  have loop_2 : ∀ (f i : Nat), i ≤ 8 → 8 < i + f → ∀ (H : Heap) (locs : List Loc) (ls : Array Slot), xG D sh ad A s.heap (mBeg V n i) H locs → lv_has ls 3 [(0, .ref (ad 17)), (1, .int (nI n)), (2, .int (nI i))] → W p l e (rmK 0) s m args below meth c H locs 0 0 (xQv below D sh ad tys A args s (mBeg V n 8)) (F0 m 2 ls []) := by
    intro f
    induction f with
    | zero => intro i h1 h2; exact absurd h2 (by omega)
    | succ f ih_2 =>
      intro i hi hf H locs ls G hl
      refine lv_iload_n hx hb dX3_begin_2 rfl (lv_at hl 2 rfl) ?_
      refine lv_bipush (v := 8) hx hb dX3_begin_3 (by decide) ?_
      refine lv_icmp_ge (tgt := 40) hx hb dX3_begin_5 (by decide) (fun c_5 => ?_) (fun c_5 => ?_)
      · skip
        have c_5 : 8 ≤ i := (nI_leI (a := 8) (b := i) (by omega) (by omega)).mp c_5
        exact x_vret B G (by rw [show i = 8 by omega]) dX3_begin_40
      · skip
        have c_5 : ¬ (8 ≤ i) := fun h9 => c_5 ((nI_leI (a := 8) (b := i) (by omega) (by omega)).mpr h9)
        refine lv_aload_n hx hb dX3_begin_8 rfl (lv_at hl 0 rfl) ?_
        refine m_getA B G M hin 15 (by decide) (by decide +kernel) dX3_begin_9 ?_
        refine lv_iload_n hx hb dX3_begin_12 rfl (lv_at hl 2 rfl) ?_
        refine lv_iload_n hx hb dX3_begin_13 rfl (lv_at hl 2 rfl) ?_
        refine lv_iload_n hx hb dX3_begin_14 rfl (lv_at hl 1 rfl) ?_
        refine lv_icmp_ne (tgt := 25) hx hb dX3_begin_15 (by decide) (fun c_15 => ?_) (fun c_15 => ?_)
        · skip
          have c_15 : ¬ (i = n) := fun h9 => c_15 ((nI_eq (a := i) (b := n) (by omega) (by omega)).mpr h9)
          refine lv_iconst (v := (-1)) hx hb dX3_begin_25 (by decide) ?_
          refine m_ast B G M 15 (by decide) i (show i < 8 by omega) rfl dX3_begin_26 (fun H locs G => ?_)
          refine lv_aload_n hx hb dX3_begin_27 rfl (lv_at hl 0 rfl) ?_
          refine m_getA B G M hin 16 (by decide) (by decide +kernel) dX3_begin_28 ?_
          refine lv_iload_n hx hb dX3_begin_31 rfl (lv_at hl 2 rfl) ?_
          refine lv_iconst (v := 0) hx hb dX3_begin_32 (by decide) ?_
          refine m_ast B G M 16 (by decide) i (show i < 8 by omega) rfl dX3_begin_33 (fun H locs G => ?_)
          refine lv_iinc (v := nI (i + 1)) (lv' := [(2, .int (nI (i + 1))), (0, .ref (ad 17)), (1, .int (nI n))]) hx hb dX3_begin_34 hl (k := 2) rfl (nI_add i 1) (by decide) rfl (fun ls hl => ?_)
          refine lv_goto (tgt := 2) hx hb dX3_begin_37 (by decide) ?_
          have hl := lv_sub (l' := [(0, .ref (ad 17)), (1, .int (nI n)), (2, .int (nI (i + 1)))]) hl [1, 2, 0] rfl
          have eV : xu (xu (mBeg V n i) 15 i (-1)) 16 i 0 = mBeg V n (i + 1) := mBeg_s V n i (if_neg c_15).symm
          rw [eV] at G
          exact ih_2 (i + 1) (by omega) (by omega) _ _ _ G hl
        · skip
          have c_15 : i = n := (nI_eq (a := i) (b := n) (by omega) (by omega)).mp c_15
          refine lv_aload_n hx hb dX3_begin_18 rfl (lv_at hl 0 rfl) ?_
          refine m_getI B G M hin 19 (by decide) (by decide +kernel) dX3_begin_19 ?_
          refine lv_goto (tgt := 26) hx hb dX3_begin_22 (by decide) ?_
          refine m_ast B G M 15 (by decide) i (show i < 8 by omega) rfl dX3_begin_26 (fun H locs G => ?_)
          refine lv_aload_n hx hb dX3_begin_27 rfl (lv_at hl 0 rfl) ?_
          refine m_getA B G M hin 16 (by decide) (by decide +kernel) dX3_begin_28 ?_
          refine lv_iload_n hx hb dX3_begin_31 rfl (lv_at hl 2 rfl) ?_
          refine lv_iconst (v := 0) hx hb dX3_begin_32 (by decide) ?_
          refine m_ast B G M 16 (by decide) i (show i < 8 by omega) rfl dX3_begin_33 (fun H locs G => ?_)
          refine lv_iinc (v := nI (i + 1)) (lv' := [(2, .int (nI (i + 1))), (0, .ref (ad 17)), (1, .int (nI n))]) hx hb dX3_begin_34 hl (k := 2) rfl (nI_add i 1) (by decide) rfl (fun ls hl => ?_)
          refine lv_goto (tgt := 2) hx hb dX3_begin_37 (by decide) ?_
          have hl := lv_sub (l' := [(0, .ref (ad 17)), (1, .int (nI n)), (2, .int (nI (i + 1)))]) hl [1, 2, 0] rfl
          have eV : xu (xu (mBeg V n i) 15 i ((mBeg V n i) 17 19)) 16 i 0 = mBeg V n (i + 1) := mBeg_s V n i (if_pos c_15).symm
          rw [eV] at G
          exact ih_2 (i + 1) (by omega) (by omega) _ _ _ G hl
  have hl := lv_sub (l' := [(0, .ref (ad 17)), (1, .int (nI n)), (2, .int 0)]) hl [1, 2, 0] rfl
  have hl := lv_cast hl (congrArg (fun z : Int32 => ([(0, .ref (ad 17)), (1, .int (nI n)), (2, .int z)] : List (Nat × Value))) (show 0 = nI 0 from rfl))
  have eV : V = mBeg V n 0 := (mBeg_0 V n).symm
  rw [eV] at G
  exact loop_2 (8 + 1) 0 (by omega) (by omega) _ _ _ G hl
def mImp (V : xV) (n : Nat) (x : Int32) : xV := if x < 0 then V else if V 15 n < 0 then xu V 15 n x else if V 15 n ≤ x then V else xu V 15 n x
theorem mImp_o (V : xV) (n : Nat) (x : Int32) {i : Nat} (h : i ≠ 15) : mImp V n x i = V i := by
  unfold mImp
  split
  · rfl
  · split
    · rw [xu_ne _ _ _ h]
    · split
      · rfl
      · rw [xu_ne _ _ _ h]
set_option maxHeartbeats 4000000 in
set_option maxRecDepth 100000 in
theorem c_X3_improve (l : Launch) {D : va_G} {sh : xS} {ad : Nat → Nat} {cI : ClassId} {tys : List (ClassId × FieldType)} (M : xMm sh ad cI tys) (V : xV) (n : Nat) (x : Int32) (hn : n < 8) : xMv l yX3_improve wsX3_improve (rmK 0) D sh ad tys V [.ref (ad 17), .int (nI n), .int x] (mImp V n x) := by
  refine xOfv (cc := cX3_improve) (nL := 3) (ret := none) (own := RX3) (by decide) rfl rfl (Nat.le_of_ble_eq_true rfl) M.2.2 ?_
  intro p e s m args below meth c A ls B G hl
  have hx := B.1.1
  have hb := B.1.2.1
  have hin : ∀ w ∈ wsX30, w ∈ wsX3_improve := by decide +kernel
  have hl : lv_has ls 3 [(0, .ref (ad 17)), (1, .int (nI n)), (2, .int x)] := hl
  refine lv_iload_n hx hb dX3_improve_0 rfl (lv_at hl 2 rfl) ?_
  refine lv_if_lt (tgt := 30) hx hb dX3_improve_1 (by decide) (fun c_1 => ?_) (fun c_1 => ?_)
  · skip
    exact x_vret B G ((if_pos c_1).symm) dX3_improve_30
  · skip
    refine lv_aload_n hx hb dX3_improve_4 rfl (lv_at hl 0 rfl) ?_
    refine m_getA B G M hin 15 (by decide) (by decide +kernel) dX3_improve_5 ?_
    refine lv_iload_n hx hb dX3_improve_8 rfl (lv_at hl 1 rfl) ?_
    refine m_ald B G M 15 (by decide) n (show n < 8 by omega) rfl dX3_improve_9 ?_
    refine lv_if_lt (tgt := 23) hx hb dX3_improve_10 (by decide) (fun c_10 => ?_) (fun c_10 => ?_)
    · skip
      refine lv_aload_n hx hb dX3_improve_23 rfl (lv_at hl 0 rfl) ?_
      refine m_getA B G M hin 15 (by decide) (by decide +kernel) dX3_improve_24 ?_
      refine lv_iload_n hx hb dX3_improve_27 rfl (lv_at hl 1 rfl) ?_
      refine lv_iload_n hx hb dX3_improve_28 rfl (lv_at hl 2 rfl) ?_
      refine m_ast B G M 15 (by decide) n (show n < 8 by omega) rfl dX3_improve_29 (fun H locs G => ?_)
      exact x_vret B G (by unfold mImp; rw [if_neg c_1, if_pos c_10]) dX3_improve_30
    · skip
      refine lv_iload_n hx hb dX3_improve_13 rfl (lv_at hl 2 rfl) ?_
      refine lv_aload_n hx hb dX3_improve_14 rfl (lv_at hl 0 rfl) ?_
      refine m_getA B G M hin 15 (by decide) (by decide +kernel) dX3_improve_15 ?_
      refine lv_iload_n hx hb dX3_improve_18 rfl (lv_at hl 1 rfl) ?_
      refine m_ald B G M 15 (by decide) n (show n < 8 by omega) rfl dX3_improve_19 ?_
      refine lv_icmp_ge (tgt := 30) hx hb dX3_improve_20 (by decide) (fun c_20 => ?_) (fun c_20 => ?_)
      · skip
        exact x_vret B G (by unfold mImp; rw [if_neg c_1, if_neg c_10, if_pos c_20]) dX3_improve_30
      · skip
        refine lv_aload_n hx hb dX3_improve_23 rfl (lv_at hl 0 rfl) ?_
        refine m_getA B G M hin 15 (by decide) (by decide +kernel) dX3_improve_24 ?_
        refine lv_iload_n hx hb dX3_improve_27 rfl (lv_at hl 1 rfl) ?_
        refine lv_iload_n hx hb dX3_improve_28 rfl (lv_at hl 2 rfl) ?_
        refine m_ast B G M 15 (by decide) n (show n < 8 by omega) rfl dX3_improve_29 (fun H locs G => ?_)
        exact x_vret B G (by unfold mImp; rw [if_neg c_1, if_neg c_10, if_neg c_20]) dX3_improve_30
def mNear (V : xV) : Nat → Nat
  | 0 => 0
  | k + 1 => if V 16 k = 0 ∧ ¬ V 15 k < 0 ∧ (mNear V k = 0 ∨ ¬ V 15 (mNear V k - 1) ≤ V 15 k) then k + 1 else mNear V k
theorem mNear_le (V : xV) (k : Nat) : mNear V k ≤ k := by
  induction k with
  | zero => exact Nat.le_refl 0
  | succ k ih => unfold mNear; split <;> omega
theorem mNear_t {V : xV} {k : Nat} (h1 : V 16 k = 0) (h2 : ¬ V 15 k < 0) (h3 : mNear V k = 0 ∨ ¬ V 15 (mNear V k - 1) ≤ V 15 k) : mNear V (k + 1) = k + 1 := if_pos ⟨h1, h2, h3⟩
theorem mNear_f {V : xV} {k : Nat} (h : ¬ (V 16 k = 0 ∧ ¬ V 15 k < 0 ∧ (mNear V k = 0 ∨ ¬ V 15 (mNear V k - 1) ≤ V 15 k))) : mNear V (k + 1) = mNear V k := if_neg h
theorem mNear_un (V : xV) (k : Nat) (h : mNear V k ≠ 0) : V 16 (mNear V k - 1) = 0 ∧ ¬ V 15 (mNear V k - 1) < 0 := by
  induction k with
  | zero => exact absurd rfl h
  | succ k ih =>
    by_cases c : V 16 k = 0 ∧ ¬ V 15 k < 0 ∧ (mNear V k = 0 ∨ ¬ V 15 (mNear V k - 1) ≤ V 15 k)
    · rw [mNear_t c.1 c.2.1 c.2.2]; exact ⟨c.1, c.2.1⟩
    · rw [mNear_f c] at h ⊢; exact ih h
set_option maxHeartbeats 4000000 in
set_option maxRecDepth 100000 in
theorem c_X3_nearest (l : Launch) {D : va_G} {sh : xS} {ad : Nat → Nat} {cI : ClassId} {tys : List (ClassId × FieldType)} (M : xMm sh ad cI tys) (V : xV) : xMi l yX3_nearest wsX3_nearest (rmK 0) D sh ad tys V [.ref (ad 17)] (oI (mNear V 8)) V := by
  refine xOfi (cc := cX3_nearest) (nL := 3) (ret := some .int) (own := RX3) (by decide) rfl rfl (Nat.le_of_ble_eq_true rfl) M.2.2 ?_
  intro p e s m args below meth c A ls B G hl
  have hx := B.1.1
  have hb := B.1.2.1
  have hin : ∀ w ∈ wsX30, w ∈ wsX3_nearest := by decide +kernel
  have hl : lv_has ls 3 [(0, .ref (ad 17))] := hl
  refine lv_iconst (v := (-1)) hx hb dX3_nearest_0 (by decide) ?_
  refine lv_istore_n (lv' := [(1, .int (-1)), (0, .ref (ad 17))]) hx hb dX3_nearest_1 rfl hl (by decide) rfl (fun ls hl => ?_)
  refine lv_iconst (v := 0) hx hb dX3_nearest_2 (by decide) ?_
  refine lv_istore_n (lv' := [(2, .int 0), (1, .int (-1)), (0, .ref (ad 17))]) hx hb dX3_nearest_3 rfl hl (by decide) rfl (fun ls hl => ?_)
  have loop_4 : ∀ (f i : Nat), i ≤ 8 → 8 < i + f → ∀ (H : Heap) (locs : List Loc) (ls : Array Slot), xG D sh ad A s.heap V H locs → lv_has ls 3 [(0, .ref (ad 17)), (1, .int (oI (mNear V i))), (2, .int (nI i))] → W p l e (rmK 0) s m args below meth c H locs 0 0 (xQi below D sh ad tys A args s (oI (mNear V 8)) V) (F0 m 4 ls []) := by
    intro f
    induction f with
    | zero => intro i h1 h2; exact absurd h2 (by omega)
    | succ f ih_4 =>
      intro i hi hf H locs ls G hl
      refine lv_iload_n hx hb dX3_nearest_4 rfl (lv_at hl 2 rfl) ?_
      refine lv_bipush (v := 8) hx hb dX3_nearest_5 (by decide) ?_
      refine lv_icmp_ge (tgt := 55) hx hb dX3_nearest_7 (by decide) (fun c_7 => ?_) (fun c_7 => ?_)
      · skip
        have c_7 : 8 ≤ i := (nI_leI (a := 8) (b := i) (by omega) (by omega)).mp c_7
        refine lv_iload_n hx hb dX3_nearest_55 rfl (lv_at hl 1 rfl) ?_
        exact x_iret B G (by rw [show i = 8 by omega]) (rfl) dX3_nearest_56
      · skip
        have c_7 : ¬ (8 ≤ i) := fun h9 => c_7 ((nI_leI (a := 8) (b := i) (by omega) (by omega)).mpr h9)
        refine lv_aload_n hx hb dX3_nearest_10 rfl (lv_at hl 0 rfl) ?_
        refine m_getA B G M hin 16 (by decide) (by decide +kernel) dX3_nearest_11 ?_
        refine lv_iload_n hx hb dX3_nearest_14 rfl (lv_at hl 2 rfl) ?_
        refine m_ald B G M 16 (by decide) i (show i < 8 by omega) rfl dX3_nearest_15 ?_
        refine lv_if_ne (tgt := 49) hx hb dX3_nearest_16 (by decide) (fun c_16 => ?_) (fun c_16 => ?_)
        · skip
          refine lv_iinc (v := nI (i + 1)) (lv' := [(2, .int (nI (i + 1))), (0, .ref (ad 17)), (1, .int (oI (mNear V i)))]) hx hb dX3_nearest_49 hl (k := 2) rfl (nI_add i 1) (by decide) rfl (fun ls hl => ?_)
          refine lv_goto (tgt := 4) hx hb dX3_nearest_52 (by decide) ?_
          have hl := lv_sub (l' := [(0, .ref (ad 17)), (1, .int (oI (mNear V i))), (2, .int (nI (i + 1)))]) hl [1, 2, 0] rfl
          have hl := lv_cast hl (congrArg (fun z : Int32 => ([(0, .ref (ad 17)), (1, .int z), (2, .int (nI (i + 1)))] : List (Nat × Value))) (show oI (mNear V i) = oI (mNear V (i + 1)) from congrArg oI (mNear_f (fun h => c_16 h.1)).symm))
          exact ih_4 (i + 1) (by omega) (by omega) _ _ _ G hl
        · skip
          refine lv_aload_n hx hb dX3_nearest_19 rfl (lv_at hl 0 rfl) ?_
          refine m_getA B G M hin 15 (by decide) (by decide +kernel) dX3_nearest_20 ?_
          refine lv_iload_n hx hb dX3_nearest_23 rfl (lv_at hl 2 rfl) ?_
          refine m_ald B G M 15 (by decide) i (show i < 8 by omega) rfl dX3_nearest_24 ?_
          refine lv_if_lt (tgt := 49) hx hb dX3_nearest_25 (by decide) (fun c_25 => ?_) (fun c_25 => ?_)
          · skip
            refine lv_iinc (v := nI (i + 1)) (lv' := [(2, .int (nI (i + 1))), (0, .ref (ad 17)), (1, .int (oI (mNear V i)))]) hx hb dX3_nearest_49 hl (k := 2) rfl (nI_add i 1) (by decide) rfl (fun ls hl => ?_)
            refine lv_goto (tgt := 4) hx hb dX3_nearest_52 (by decide) ?_
            have hl := lv_sub (l' := [(0, .ref (ad 17)), (1, .int (oI (mNear V i))), (2, .int (nI (i + 1)))]) hl [1, 2, 0] rfl
            have hl := lv_cast hl (congrArg (fun z : Int32 => ([(0, .ref (ad 17)), (1, .int z), (2, .int (nI (i + 1)))] : List (Nat × Value))) (show oI (mNear V i) = oI (mNear V (i + 1)) from congrArg oI (mNear_f (fun h => h.2.1 c_25)).symm))
            exact ih_4 (i + 1) (by omega) (by omega) _ _ _ G hl
          · skip
            refine lv_iload_n hx hb dX3_nearest_28 rfl (lv_at hl 1 rfl) ?_
            refine lv_if_lt (tgt := 47) hx hb dX3_nearest_29 (by decide) (fun c_29 => ?_) (fun c_29 => ?_)
            · skip
              refine lv_iload_n hx hb dX3_nearest_47 rfl (lv_at hl 2 rfl) ?_
              refine lv_istore_n (lv' := [(1, .int (nI i)), (0, .ref (ad 17)), (2, .int (nI i))]) hx hb dX3_nearest_48 rfl hl (by decide) rfl (fun ls hl => ?_)
              refine lv_iinc (v := nI (i + 1)) (lv' := [(2, .int (nI (i + 1))), (1, .int (nI i)), (0, .ref (ad 17))]) hx hb dX3_nearest_49 hl (k := 2) rfl (nI_add i 1) (by decide) rfl (fun ls hl => ?_)
              refine lv_goto (tgt := 4) hx hb dX3_nearest_52 (by decide) ?_
              have hl := lv_sub (l' := [(0, .ref (ad 17)), (1, .int (nI i)), (2, .int (nI (i + 1)))]) hl [2, 1, 0] rfl
              have hl := lv_cast hl (congrArg (fun z : Int32 => ([(0, .ref (ad 17)), (1, .int z), (2, .int (nI (i + 1)))] : List (Nat × Value))) (show nI i = oI (mNear V (i + 1)) from (congrArg oI (mNear_t c_16 c_25 (Or.inl ((oI_neg (by have := mNear_le V i; omega)).mp c_29)))).symm))
              exact ih_4 (i + 1) (by omega) (by omega) _ _ _ G hl
            · skip
              have b_29 := mNear_le V i
              have p_29 := oI_pos (by omega) c_29
              refine lv_aload_n hx hb dX3_nearest_32 rfl (lv_at hl 0 rfl) ?_
              refine m_getA B G M hin 15 (by decide) (by decide +kernel) dX3_nearest_33 ?_
              refine lv_iload_n hx hb dX3_nearest_36 rfl (lv_at hl 2 rfl) ?_
              refine m_ald B G M 15 (by decide) i (show i < 8 by omega) rfl dX3_nearest_37 ?_
              refine lv_aload_n hx hb dX3_nearest_38 rfl (lv_at hl 0 rfl) ?_
              refine m_getA B G M hin 15 (by decide) (by decide +kernel) dX3_nearest_39 ?_
              refine lv_iload_n hx hb dX3_nearest_42 rfl (lv_at hl 1 rfl) ?_
              refine x_top (show _ = nI (mNear V i - 1) from p_29.2) ?_
              refine m_ald B G M 15 (by decide) (mNear V i - 1) (show (mNear V i - 1) < 8 by omega) rfl dX3_nearest_43 ?_
              refine lv_icmp_ge (tgt := 49) hx hb dX3_nearest_44 (by decide) (fun c_44 => ?_) (fun c_44 => ?_)
              · skip
                refine lv_iinc (v := nI (i + 1)) (lv' := [(2, .int (nI (i + 1))), (0, .ref (ad 17)), (1, .int (oI (mNear V i)))]) hx hb dX3_nearest_49 hl (k := 2) rfl (nI_add i 1) (by decide) rfl (fun ls hl => ?_)
                refine lv_goto (tgt := 4) hx hb dX3_nearest_52 (by decide) ?_
                have hl := lv_sub (l' := [(0, .ref (ad 17)), (1, .int (oI (mNear V i))), (2, .int (nI (i + 1)))]) hl [1, 2, 0] rfl
                have hl := lv_cast hl (congrArg (fun z : Int32 => ([(0, .ref (ad 17)), (1, .int z), (2, .int (nI (i + 1)))] : List (Nat × Value))) (show oI (mNear V i) = oI (mNear V (i + 1)) from congrArg oI (mNear_f (fun h => h.2.2.elim (fun z => p_29.1 z) (fun z => z c_44))).symm))
                exact ih_4 (i + 1) (by omega) (by omega) _ _ _ G hl
              · skip
                refine lv_iload_n hx hb dX3_nearest_47 rfl (lv_at hl 2 rfl) ?_
                refine lv_istore_n (lv' := [(1, .int (nI i)), (0, .ref (ad 17)), (2, .int (nI i))]) hx hb dX3_nearest_48 rfl hl (by decide) rfl (fun ls hl => ?_)
                refine lv_iinc (v := nI (i + 1)) (lv' := [(2, .int (nI (i + 1))), (1, .int (nI i)), (0, .ref (ad 17))]) hx hb dX3_nearest_49 hl (k := 2) rfl (nI_add i 1) (by decide) rfl (fun ls hl => ?_)
                refine lv_goto (tgt := 4) hx hb dX3_nearest_52 (by decide) ?_
                have hl := lv_sub (l' := [(0, .ref (ad 17)), (1, .int (nI i)), (2, .int (nI (i + 1)))]) hl [2, 1, 0] rfl
                have hl := lv_cast hl (congrArg (fun z : Int32 => ([(0, .ref (ad 17)), (1, .int z), (2, .int (nI (i + 1)))] : List (Nat × Value))) (show nI i = oI (mNear V (i + 1)) from (congrArg oI (mNear_t c_16 c_25 (Or.inr c_44))).symm))
                exact ih_4 (i + 1) (by omega) (by omega) _ _ _ G hl
  have hl := lv_sub (l' := [(0, .ref (ad 17)), (1, .int (-1)), (2, .int 0)]) hl [2, 1, 0] rfl
  have hl := lv_cast hl (congrArg (fun z : Int32 => ([(0, .ref (ad 17)), (1, .int z), (2, .int 0)] : List (Nat × Value))) (show (-1) = oI (mNear V 0) from rfl))
  have hl := lv_cast hl (congrArg (fun z : Int32 => ([(0, .ref (ad 17)), (1, .int (oI (mNear V 0))), (2, .int z)] : List (Nat × Value))) (show 0 = nI 0 from rfl))
  exact loop_4 (8 + 1) 0 (by omega) (by omega) _ _ _ G hl
def mOne (V : xV) (k : Nat) : Nat := (V 12 (4 * k)).toNatClampNeg
def mTwo (V : xV) (k : Nat) : Nat := (V 12 (4 * k + 1)).toNatClampNeg
/-- the contacts' nodes are nodes -/
def mPl (V : xV) (nc : Nat) : Prop := ∀ k, k < nc → V 12 (4 * k) = nI (mOne V k) ∧ mOne V k < 8 ∧ V 12 (4 * k + 1) = nI (mTwo V k) ∧ mTwo V k < 8
theorem mPl.eq {V W : xV} {nc : Nat} (h : mPl V nc) (e : W 12 = V 12) : mPl W nc := by
  intro k hk
  unfold mOne mTwo
  rw [e]
  exact h k hk
def mSpr (V : xV) (a : Nat) : Nat → xV
  | 0 => V
  | k + 1 => if mOne V k = a then mImp (mSpr V a k) (mTwo V k) (mUse (mSpr V a k) k (mSpr V a k 15 a)) else if mTwo V k = a then mImp (mSpr V a k) (mOne V k) (mUse (mSpr V a k) k (mSpr V a k 15 a)) else mSpr V a k
theorem mSpr_o (V : xV) (a k : Nat) {i : Nat} (h : i ≠ 15) : mSpr V a k i = V i := by
  induction k with
  | zero => rfl
  | succ k ih =>
    unfold mSpr
    split
    · rw [mImp_o _ _ _ h, ih]
    · split
      · rw [mImp_o _ _ _ h, ih]
      · exact ih
def mRun (nc : Nat) : Nat → xV → xV
  | 0, V => V
  | f + 1, V => if mNear V 8 = 0 then V else mRun nc f (mSpr (xu V 16 (mNear V 8 - 1) 1) (mNear V 8 - 1) nc)
theorem mRun_o (nc f : Nat) (V : xV) {i : Nat} (h : i ≠ 15) (h2 : i ≠ 16) : mRun nc f V i = V i := by
  induction f generalizing V with
  | zero => rfl
  | succ f ih =>
    unfold mRun
    split
    · rfl
    · rw [ih, mSpr_o _ _ _ h, xu_ne _ _ _ h2]
/-- how many nodes are open still -/
def mUnf (V : xV) : Nat := cntP (fun j => decide (V 16 j = 0)) 8
theorem cntP_congr {P R : Nat → Bool} {n : Nat} (h : ∀ i, i < n → P i = R i) : cntP P n = cntP R n := by
  induction n with
  | zero => rfl
  | succ n ih =>
    unfold cntP
    rw [ih (fun i hi => h i (by omega)), h n (by omega)]
theorem cntP_drop {P R : Nat → Bool} {n k : Nat} (hk : k < n) (hP : P k = true) (hR : R k = false) (h : ∀ i, i ≠ k → P i = R i) : cntP R n < cntP P n := by
  induction n with
  | zero => omega
  | succ n ih =>
    unfold cntP
    by_cases e : k = n
    · subst e
      rw [hP, hR, cntP_congr (P := R) (R := P) (fun i hi => (h i (by omega)).symm)]
      simp
    · have := ih (by omega)
      rw [h n (by omega)]
      omega
theorem mUnf_lt (V : xV) (a nc : Nat) (ha : a < 8) (h : V 16 a = 0) : mUnf (mSpr (xu V 16 a 1) a nc) < mUnf V := by
  unfold mUnf
  refine cntP_drop (k := a) ha (decide_eq_true h) (decide_eq_false ?_) (fun i hi => ?_)
  · rw [mSpr_o _ _ _ (by decide), xu_same]
    simp [upd]
  · rw [mSpr_o _ _ _ (by decide), xu_same]
    simp [upd, hi]
def mFin (V : xV) (n nc : Nat) : xV := mRun nc 9 (mBeg V n 8)
theorem mFin_o (V : xV) (n nc : Nat) {i : Nat} (h : i ≠ 15) (h2 : i ≠ 16) : mFin V n nc i = V i := by unfold mFin; rw [mRun_o _ _ _ h h2, mBeg_o _ _ _ h h2]
set_option maxHeartbeats 4000000 in
set_option maxRecDepth 100000 in
theorem c_X3_reach (l : Launch) {D : va_G} {sh : xS} {ad : Nat → Nat} {cI : ClassId} {tys : List (ClassId × FieldType)} (M : xMm sh ad cI tys) (V : xV) (n d nc : Nat) (hn : n < 8) (hd : d < 8) (hnc : V 17 18 = nI nc) (hc30 : nc ≤ 30) (hpl : mPl V nc) : xMi l yX3_reach wsX3_reach (rmK 1) D sh ad tys V [.ref (ad 17), .int (nI n), .int (nI d)] (mFin V n nc 15 d) (mFin V n nc) := by
  refine xOfi (cc := cX3_reach) (nL := 7) (ret := some .int) (own := RX3) (by decide) rfl rfl (Nat.le_of_ble_eq_true rfl) M.2.2 ?_
  intro p e s m args below meth c A ls B G hl
  have hx := B.1.1
  have hb := B.1.2.1
  have hin : ∀ w ∈ wsX30, w ∈ wsX3_reach := by decide +kernel
  have hl : lv_has ls 7 [(0, .ref (ad 17)), (1, .int (nI n)), (2, .int (nI d))] := hl
  refine lv_aload_n hx hb dX3_reach_0 rfl (lv_at hl 0 rfl) ?_
  refine lv_iload_n hx hb dX3_reach_1 rfl (lv_at hl 1 rfl) ?_
  refine x_callVv (rest := []) B G (c_X3_begin l M V n hn) (cwV 1 B.1.2.2.2.2 gX3_reach_X3_begin rfl rfl rfl (by decide +kernel) ⟨Nat.le_of_ble_eq_true rfl, Nat.le_of_ble_eq_true rfl⟩) (m_recv B G M) rfl hl.1 rfl (Nat.le_of_ble_eq_true rfl) ⟨Nat.zero_le _, Nat.zero_le _⟩ dX3_reach_2 (fun H locs G => ?_)
  refine lv_aload_n hx hb dX3_reach_5 rfl (lv_at hl 0 rfl) ?_
  refine x_callVi (rest := []) B G (c_X3_nearest l M (mBeg V n 8)) (cwV 0 B.1.2.2.2.2 gX3_reach_X3_nearest rfl rfl rfl (by decide +kernel) ⟨Nat.le_of_ble_eq_true rfl, Nat.le_of_ble_eq_true rfl⟩) (m_recv B G M) rfl hl.1 rfl (Nat.le_of_ble_eq_true rfl) ⟨Nat.zero_le _, Nat.zero_le _⟩ dX3_reach_6 (fun H locs G => ?_)
  refine lv_istore_n (lv' := [(3, .int (oI (mNear (mBeg V n 8) 8))), (0, .ref (ad 17)), (1, .int (nI n)), (2, .int (nI d))]) hx hb dX3_reach_9 rfl hl (by decide) rfl (fun ls hl => ?_)
  have outer : ∀ (f : Nat) (W0 : xV), mUnf W0 < f → W0 12 = V 12 → W0 17 = V 17 → mRun nc f W0 = mFin V n nc → ∀ (H : Heap) (locs : List Loc) (ls : Array Slot), xG D sh ad A s.heap W0 H locs → lv_has ls 7 [(0, .ref (ad 17)), (1, .int (nI n)), (2, .int (nI d)), (3, .int (oI (mNear W0 8)))] → W p l e (rmK 1) s m args below meth c H locs 0 0 (xQi below D sh ad tys A args s (mFin V n nc 15 d) (mFin V n nc)) (F0 m 10 ls []) := by
    intro f
    induction f with
    | zero => intro W0 h1; exact absurd h1 (by omega)
    | succ f ih_10 =>
      intro W0 hu h12 h17 hr H locs ls G hl
      have b_8 := mNear_le W0 8
      refine lv_iload_n hx hb dX3_reach_10 rfl (lv_at hl 3 rfl) ?_
      refine lv_if_lt (tgt := 112) hx hb dX3_reach_11 (by decide) (fun c_11 => ?_) (fun c_11 => ?_)
      · skip
        have z_11 := (oI_neg (by omega)).mp c_11
        have e_W : W0 = mFin V n nc := by rw [← hr]; exact (if_pos z_11).symm
        refine lv_aload_n hx hb dX3_reach_112 rfl (lv_at hl 0 rfl) ?_
        refine m_getA B G M hin 15 (by decide) (by decide +kernel) dX3_reach_113 ?_
        refine lv_iload_n hx hb dX3_reach_116 rfl (lv_at hl 2 rfl) ?_
        refine m_ald B G M 15 (by decide) d (show d < 8 by omega) rfl dX3_reach_117 ?_
        exact x_iret B G (congrFun (congrFun e_W 15) d) (e_W) dX3_reach_118
      · skip
        have p_11 := oI_pos (by omega) c_11
        have u_11 := mNear_un W0 8 p_11.1
        have plX : mPl (xu W0 16 (mNear W0 8 - 1) 1) nc := hpl.eq (by rw [xu_ne _ _ _ (by decide)]; exact h12)
        refine lv_aload_n hx hb dX3_reach_14 rfl (lv_at hl 0 rfl) ?_
        refine m_getA B G M hin 16 (by decide) (by decide +kernel) dX3_reach_15 ?_
        refine lv_iload_n hx hb dX3_reach_18 rfl (lv_at hl 3 rfl) ?_
        refine x_top (show _ = nI (mNear W0 8 - 1) from p_11.2) ?_
        refine lv_iconst (v := 1) hx hb dX3_reach_19 (by decide) ?_
        refine m_ast B G M 16 (by decide) (mNear W0 8 - 1) (show (mNear W0 8 - 1) < 8 by omega) rfl dX3_reach_20 (fun H locs G => ?_)
        refine lv_iconst (v := 0) hx hb dX3_reach_21 (by decide) ?_
        refine lv_istore (lv' := [(4, .int 0), (0, .ref (ad 17)), (1, .int (nI n)), (2, .int (nI d)), (3, .int (oI (mNear W0 8)))]) hx hb dX3_reach_22 hl (by decide) rfl (fun ls hl => ?_)
        have loop_24 : ∀ (f i : Nat), i ≤ nc → nc < i + f → ∀ (H : Heap) (locs : List Loc) (ls : Array Slot), xG D sh ad A s.heap (mSpr (xu W0 16 (mNear W0 8 - 1) 1) (mNear W0 8 - 1) i) H locs → lv_has ls 7 [(0, .ref (ad 17)), (1, .int (nI n)), (2, .int (nI d)), (3, .int (nI (mNear W0 8 - 1))), (4, .int (nI i))] → W p l e (rmK 1) s m args below meth c H locs 0 0 (xQi below D sh ad tys A args s (mFin V n nc 15 d) (mFin V n nc)) (F0 m 24 ls []) := by
          intro f
          induction f with
          | zero => intro i h1 h2; exact absurd h2 (by omega)
          | succ f ih_24 =>
            intro i hi hf H locs ls G hl
            refine lv_iload hx hb dX3_reach_24 (lv_at hl 4 rfl) ?_
            refine lv_aload_n hx hb dX3_reach_26 rfl (lv_at hl 0 rfl) ?_
            refine m_getI B G M hin 18 (by decide) (by decide +kernel) dX3_reach_27 ?_
            refine x_top (show _ = nI nc from (by rw [mSpr_o _ _ _ (by decide)]; exact (congrFun h17 18).trans hnc)) ?_
            refine lv_icmp_ge (tgt := 104) hx hb dX3_reach_30 (by decide) (fun c_30 => ?_) (fun c_30 => ?_)
            · skip
              have c_30 : nc ≤ i := (nI_leI (a := nc) (b := i) (by omega) (by omega)).mp c_30
              have e_i : i = nc := by omega
              rw [e_i] at G hl
              refine lv_aload_n hx hb dX3_reach_104 rfl (lv_at hl 0 rfl) ?_
              refine x_callVi (rest := []) B G (c_X3_nearest l M (mSpr (xu W0 16 (mNear W0 8 - 1) 1) (mNear W0 8 - 1) nc)) (cwV 0 B.1.2.2.2.2 gX3_reach_X3_nearest rfl rfl rfl (by decide +kernel) ⟨Nat.le_of_ble_eq_true rfl, Nat.le_of_ble_eq_true rfl⟩) (m_recv B G M) rfl hl.1 rfl (Nat.le_of_ble_eq_true rfl) ⟨Nat.zero_le _, Nat.zero_le _⟩ dX3_reach_105 (fun H locs G => ?_)
              refine lv_istore_n (lv' := [(3, .int (oI (mNear (mSpr (xu W0 16 (mNear W0 8 - 1) 1) (mNear W0 8 - 1) nc) 8))), (0, .ref (ad 17)), (1, .int (nI n)), (2, .int (nI d)), (4, .int (nI nc))]) hx hb dX3_reach_108 rfl hl (by decide) rfl (fun ls hl => ?_)
              refine lv_goto (tgt := 10) hx hb dX3_reach_109 (by decide) ?_
              have hl := lv_sub (l' := [(0, .ref (ad 17)), (1, .int (nI n)), (2, .int (nI d)), (3, .int (oI (mNear (mSpr (xu W0 16 (mNear W0 8 - 1) 1) (mNear W0 8 - 1) nc) 8)))]) hl [1, 2, 3, 0] rfl
              exact ih_10 (mSpr (xu W0 16 (mNear W0 8 - 1) 1) (mNear W0 8 - 1) nc) (by have := mUnf_lt W0 (mNear W0 8 - 1) nc (by omega) u_11.1; omega) (by rw [mSpr_o _ _ _ (by decide)]; exact h12) (by rw [mSpr_o _ _ _ (by decide)]; exact h17) (by rw [← hr]; exact (if_neg p_11.1).symm) _ _ _ G hl
            · skip
              have c_30 : ¬ (nc ≤ i) := fun h9 => c_30 ((nI_leI (a := nc) (b := i) (by omega) (by omega)).mpr h9)
              obtain ⟨e_1, l_1, e_2, l_2⟩ := plX i (by omega)
              refine lv_aload_n hx hb dX3_reach_33 rfl (lv_at hl 0 rfl) ?_
              refine m_getA B G M hin 12 (by decide) (by decide +kernel) dX3_reach_34 ?_
              refine lv_iconst (v := 4) hx hb dX3_reach_37 (by decide) ?_
              refine lv_iload hx hb dX3_reach_38 (lv_at hl 4 rfl) ?_
              refine lv_imul hx hb dX3_reach_40 ?_
              refine x_top (show 4 * (nI i) = nI (4 * i) from pk_mul 4 i) ?_
              refine m_ald B G M 12 (by decide) (4 * i) (show (4 * i) < 120 by omega) rfl dX3_reach_41 ?_
              refine x_top (show _ = nI (mOne (xu W0 16 (mNear W0 8 - 1) 1) i) from (by rw [mSpr_o _ _ _ (by decide)]; exact e_1)) ?_
              refine lv_istore (lv' := [(5, .int (nI (mOne (xu W0 16 (mNear W0 8 - 1) 1) i))), (0, .ref (ad 17)), (1, .int (nI n)), (2, .int (nI d)), (3, .int (nI (mNear W0 8 - 1))), (4, .int (nI i))]) hx hb dX3_reach_42 hl (by decide) rfl (fun ls hl => ?_)
              refine lv_aload_n hx hb dX3_reach_44 rfl (lv_at hl 1 rfl) ?_
              refine m_getA B G M hin 12 (by decide) (by decide +kernel) dX3_reach_45 ?_
              refine lv_iconst (v := 4) hx hb dX3_reach_48 (by decide) ?_
              refine lv_iload hx hb dX3_reach_49 (lv_at hl 5 rfl) ?_
              refine lv_imul hx hb dX3_reach_51 ?_
              refine x_top (show 4 * (nI i) = nI (4 * i) from pk_mul 4 i) ?_
              refine lv_iconst (v := 1) hx hb dX3_reach_52 (by decide) ?_
              refine lv_iadd hx hb dX3_reach_53 ?_
              refine x_top (show (nI (4 * i)) + 1 = nI ((4 * i) + 1) from nI_add (4 * i) 1) ?_
              refine m_ald B G M 12 (by decide) ((4 * i) + 1) (show ((4 * i) + 1) < 120 by omega) rfl dX3_reach_54 ?_
              refine x_top (show _ = nI (mTwo (xu W0 16 (mNear W0 8 - 1) 1) i) from (by rw [mSpr_o _ _ _ (by decide)]; exact e_2)) ?_
              refine lv_istore (lv' := [(6, .int (nI (mTwo (xu W0 16 (mNear W0 8 - 1) 1) i))), (5, .int (nI (mOne (xu W0 16 (mNear W0 8 - 1) 1) i))), (0, .ref (ad 17)), (1, .int (nI n)), (2, .int (nI d)), (3, .int (nI (mNear W0 8 - 1))), (4, .int (nI i))]) hx hb dX3_reach_55 hl (by decide) rfl (fun ls hl => ?_)
              refine lv_iload hx hb dX3_reach_57 (lv_at hl 1 rfl) ?_
              refine lv_iload_n hx hb dX3_reach_59 rfl (lv_at hl 5 rfl) ?_
              refine lv_icmp_eq (tgt := 69) hx hb dX3_reach_60 (by decide) (fun c_60 => ?_) (fun c_60 => ?_)
              · skip
                have c_60 : (mOne (xu W0 16 (mNear W0 8 - 1) 1) i) = (mNear W0 8 - 1) := (nI_eq (a := (mOne (xu W0 16 (mNear W0 8 - 1) 1) i)) (b := (mNear W0 8 - 1)) (by omega) (by omega)).mp c_60
                refine lv_aload_n hx hb dX3_reach_69 rfl (lv_at hl 2 rfl) ?_
                refine lv_iload hx hb dX3_reach_70 (lv_at hl 1 rfl) ?_
                refine lv_iload_n hx hb dX3_reach_72 rfl (lv_at hl 5 rfl) ?_
                refine lv_icmp_ne (tgt := 81) hx hb dX3_reach_73 (by decide) (fun c_73 => ?_) (fun c_73 => ?_)
                · exact False.elim (c_73 (congrArg nI c_60))
                · skip
                  have c_73 : (mOne (xu W0 16 (mNear W0 8 - 1) 1) i) = (mNear W0 8 - 1) := (nI_eq (a := (mOne (xu W0 16 (mNear W0 8 - 1) 1) i)) (b := (mNear W0 8 - 1)) (by omega) (by omega)).mp c_73
                  refine lv_iload hx hb dX3_reach_76 (lv_at hl 0 rfl) ?_
                  refine lv_goto (tgt := 83) hx hb dX3_reach_78 (by decide) ?_
                  refine lv_aload_n hx hb dX3_reach_83 rfl (lv_at hl 2 rfl) ?_
                  refine lv_iload hx hb dX3_reach_84 (lv_at hl 6 rfl) ?_
                  refine lv_aload_n hx hb dX3_reach_86 rfl (lv_at hl 2 rfl) ?_
                  refine m_getA B G M hin 15 (by decide) (by decide +kernel) dX3_reach_87 ?_
                  refine lv_iload_n hx hb dX3_reach_90 rfl (lv_at hl 5 rfl) ?_
                  refine m_ald B G M 15 (by decide) (mNear W0 8 - 1) (show (mNear W0 8 - 1) < 8 by omega) rfl dX3_reach_91 ?_
                  refine x_callVi (rest := [.int (nI (mTwo (xu W0 16 (mNear W0 8 - 1) 1) i)), .ref (ad 17)]) B G (c_X3_use l M (mSpr (xu W0 16 (mNear W0 8 - 1) 1) (mNear W0 8 - 1) i) i ((mSpr (xu W0 16 (mNear W0 8 - 1) 1) (mNear W0 8 - 1) i) 15 (mNear W0 8 - 1)) (by omega)) (cwV 2 B.1.2.2.2.2 gX3_reach_X3_use rfl rfl rfl (by decide +kernel) ⟨Nat.le_of_ble_eq_true rfl, Nat.le_of_ble_eq_true rfl⟩) (m_recv B G M) rfl hl.1 rfl (Nat.le_of_ble_eq_true rfl) ⟨Nat.zero_le _, Nat.zero_le _⟩ dX3_reach_92 (fun H locs G => ?_)
                  refine x_callVv (rest := []) B G (c_X3_improve l M (mSpr (xu W0 16 (mNear W0 8 - 1) 1) (mNear W0 8 - 1) i) (mTwo (xu W0 16 (mNear W0 8 - 1) 1) i) (mUse (mSpr (xu W0 16 (mNear W0 8 - 1) 1) (mNear W0 8 - 1) i) i ((mSpr (xu W0 16 (mNear W0 8 - 1) 1) (mNear W0 8 - 1) i) 15 (mNear W0 8 - 1))) (by omega)) (cwV 2 B.1.2.2.2.2 gX3_reach_X3_improve rfl rfl rfl (by decide +kernel) ⟨Nat.le_of_ble_eq_true rfl, Nat.le_of_ble_eq_true rfl⟩) (m_recv B G M) rfl hl.1 rfl (Nat.le_of_ble_eq_true rfl) ⟨Nat.zero_le _, Nat.zero_le _⟩ dX3_reach_95 (fun H locs G => ?_)
                  refine lv_iinc (v := nI (i + 1)) (lv' := [(4, .int (nI (i + 1))), (6, .int (nI (mTwo (xu W0 16 (mNear W0 8 - 1) 1) i))), (5, .int (nI (mOne (xu W0 16 (mNear W0 8 - 1) 1) i))), (0, .ref (ad 17)), (1, .int (nI n)), (2, .int (nI d)), (3, .int (nI (mNear W0 8 - 1)))]) hx hb dX3_reach_98 hl (k := 6) rfl (nI_add i 1) (by decide) rfl (fun ls hl => ?_)
                  refine lv_goto (tgt := 24) hx hb dX3_reach_101 (by decide) ?_
                  have hl := lv_sub (l' := [(0, .ref (ad 17)), (1, .int (nI n)), (2, .int (nI d)), (3, .int (nI (mNear W0 8 - 1))), (4, .int (nI (i + 1)))]) hl [3, 4, 5, 6, 0] rfl
                  have eV : mImp (mSpr (xu W0 16 (mNear W0 8 - 1) 1) (mNear W0 8 - 1) i) (mTwo (xu W0 16 (mNear W0 8 - 1) 1) i) (mUse (mSpr (xu W0 16 (mNear W0 8 - 1) 1) (mNear W0 8 - 1) i) i ((mSpr (xu W0 16 (mNear W0 8 - 1) 1) (mNear W0 8 - 1) i) 15 (mNear W0 8 - 1))) = mSpr (xu W0 16 (mNear W0 8 - 1) 1) (mNear W0 8 - 1) (i + 1) := (if_pos c_60).symm
                  rw [eV] at G
                  exact ih_24 (i + 1) (by omega) (by omega) _ _ _ G hl
              · skip
                have c_60 : ¬ ((mOne (xu W0 16 (mNear W0 8 - 1) 1) i) = (mNear W0 8 - 1)) := fun h9 => c_60 ((nI_eq (a := (mOne (xu W0 16 (mNear W0 8 - 1) 1) i)) (b := (mNear W0 8 - 1)) (by omega) (by omega)).mpr h9)
                refine lv_iload hx hb dX3_reach_63 (lv_at hl 0 rfl) ?_
                refine lv_iload_n hx hb dX3_reach_65 rfl (lv_at hl 5 rfl) ?_
                refine lv_icmp_ne (tgt := 98) hx hb dX3_reach_66 (by decide) (fun c_66 => ?_) (fun c_66 => ?_)
                · skip
                  have c_66 : ¬ ((mTwo (xu W0 16 (mNear W0 8 - 1) 1) i) = (mNear W0 8 - 1)) := fun h9 => c_66 ((nI_eq (a := (mTwo (xu W0 16 (mNear W0 8 - 1) 1) i)) (b := (mNear W0 8 - 1)) (by omega) (by omega)).mpr h9)
                  refine lv_iinc (v := nI (i + 1)) (lv' := [(4, .int (nI (i + 1))), (6, .int (nI (mTwo (xu W0 16 (mNear W0 8 - 1) 1) i))), (5, .int (nI (mOne (xu W0 16 (mNear W0 8 - 1) 1) i))), (0, .ref (ad 17)), (1, .int (nI n)), (2, .int (nI d)), (3, .int (nI (mNear W0 8 - 1)))]) hx hb dX3_reach_98 hl (k := 6) rfl (nI_add i 1) (by decide) rfl (fun ls hl => ?_)
                  refine lv_goto (tgt := 24) hx hb dX3_reach_101 (by decide) ?_
                  have hl := lv_sub (l' := [(0, .ref (ad 17)), (1, .int (nI n)), (2, .int (nI d)), (3, .int (nI (mNear W0 8 - 1))), (4, .int (nI (i + 1)))]) hl [3, 4, 5, 6, 0] rfl
                  have eV : mSpr (xu W0 16 (mNear W0 8 - 1) 1) (mNear W0 8 - 1) i = mSpr (xu W0 16 (mNear W0 8 - 1) 1) (mNear W0 8 - 1) (i + 1) := ((if_neg c_60).trans (if_neg c_66)).symm
                  rw [eV] at G
                  exact ih_24 (i + 1) (by omega) (by omega) _ _ _ G hl
                · skip
                  have c_66 : (mTwo (xu W0 16 (mNear W0 8 - 1) 1) i) = (mNear W0 8 - 1) := (nI_eq (a := (mTwo (xu W0 16 (mNear W0 8 - 1) 1) i)) (b := (mNear W0 8 - 1)) (by omega) (by omega)).mp c_66
                  refine lv_aload_n hx hb dX3_reach_69 rfl (lv_at hl 2 rfl) ?_
                  refine lv_iload hx hb dX3_reach_70 (lv_at hl 1 rfl) ?_
                  refine lv_iload_n hx hb dX3_reach_72 rfl (lv_at hl 5 rfl) ?_
                  refine lv_icmp_ne (tgt := 81) hx hb dX3_reach_73 (by decide) (fun c_73 => ?_) (fun c_73 => ?_)
                  · skip
                    have c_73 : ¬ ((mOne (xu W0 16 (mNear W0 8 - 1) 1) i) = (mNear W0 8 - 1)) := fun h9 => c_73 ((nI_eq (a := (mOne (xu W0 16 (mNear W0 8 - 1) 1) i)) (b := (mNear W0 8 - 1)) (by omega) (by omega)).mpr h9)
                    refine lv_iload hx hb dX3_reach_81 (lv_at hl 1 rfl) ?_
                    refine lv_aload_n hx hb dX3_reach_83 rfl (lv_at hl 2 rfl) ?_
                    refine lv_iload hx hb dX3_reach_84 (lv_at hl 6 rfl) ?_
                    refine lv_aload_n hx hb dX3_reach_86 rfl (lv_at hl 2 rfl) ?_
                    refine m_getA B G M hin 15 (by decide) (by decide +kernel) dX3_reach_87 ?_
                    refine lv_iload_n hx hb dX3_reach_90 rfl (lv_at hl 5 rfl) ?_
                    refine m_ald B G M 15 (by decide) (mNear W0 8 - 1) (show (mNear W0 8 - 1) < 8 by omega) rfl dX3_reach_91 ?_
                    refine x_callVi (rest := [.int (nI (mOne (xu W0 16 (mNear W0 8 - 1) 1) i)), .ref (ad 17)]) B G (c_X3_use l M (mSpr (xu W0 16 (mNear W0 8 - 1) 1) (mNear W0 8 - 1) i) i ((mSpr (xu W0 16 (mNear W0 8 - 1) 1) (mNear W0 8 - 1) i) 15 (mNear W0 8 - 1)) (by omega)) (cwV 2 B.1.2.2.2.2 gX3_reach_X3_use rfl rfl rfl (by decide +kernel) ⟨Nat.le_of_ble_eq_true rfl, Nat.le_of_ble_eq_true rfl⟩) (m_recv B G M) rfl hl.1 rfl (Nat.le_of_ble_eq_true rfl) ⟨Nat.zero_le _, Nat.zero_le _⟩ dX3_reach_92 (fun H locs G => ?_)
                    refine x_callVv (rest := []) B G (c_X3_improve l M (mSpr (xu W0 16 (mNear W0 8 - 1) 1) (mNear W0 8 - 1) i) (mOne (xu W0 16 (mNear W0 8 - 1) 1) i) (mUse (mSpr (xu W0 16 (mNear W0 8 - 1) 1) (mNear W0 8 - 1) i) i ((mSpr (xu W0 16 (mNear W0 8 - 1) 1) (mNear W0 8 - 1) i) 15 (mNear W0 8 - 1))) (by omega)) (cwV 2 B.1.2.2.2.2 gX3_reach_X3_improve rfl rfl rfl (by decide +kernel) ⟨Nat.le_of_ble_eq_true rfl, Nat.le_of_ble_eq_true rfl⟩) (m_recv B G M) rfl hl.1 rfl (Nat.le_of_ble_eq_true rfl) ⟨Nat.zero_le _, Nat.zero_le _⟩ dX3_reach_95 (fun H locs G => ?_)
                    refine lv_iinc (v := nI (i + 1)) (lv' := [(4, .int (nI (i + 1))), (6, .int (nI (mTwo (xu W0 16 (mNear W0 8 - 1) 1) i))), (5, .int (nI (mOne (xu W0 16 (mNear W0 8 - 1) 1) i))), (0, .ref (ad 17)), (1, .int (nI n)), (2, .int (nI d)), (3, .int (nI (mNear W0 8 - 1)))]) hx hb dX3_reach_98 hl (k := 6) rfl (nI_add i 1) (by decide) rfl (fun ls hl => ?_)
                    refine lv_goto (tgt := 24) hx hb dX3_reach_101 (by decide) ?_
                    have hl := lv_sub (l' := [(0, .ref (ad 17)), (1, .int (nI n)), (2, .int (nI d)), (3, .int (nI (mNear W0 8 - 1))), (4, .int (nI (i + 1)))]) hl [3, 4, 5, 6, 0] rfl
                    have eV : mImp (mSpr (xu W0 16 (mNear W0 8 - 1) 1) (mNear W0 8 - 1) i) (mOne (xu W0 16 (mNear W0 8 - 1) 1) i) (mUse (mSpr (xu W0 16 (mNear W0 8 - 1) 1) (mNear W0 8 - 1) i) i ((mSpr (xu W0 16 (mNear W0 8 - 1) 1) (mNear W0 8 - 1) i) 15 (mNear W0 8 - 1))) = mSpr (xu W0 16 (mNear W0 8 - 1) 1) (mNear W0 8 - 1) (i + 1) := ((if_neg c_60).trans (if_pos c_66)).symm
                    rw [eV] at G
                    exact ih_24 (i + 1) (by omega) (by omega) _ _ _ G hl
                  · exact False.elim (c_60 ((nI_eq (by omega) (by omega)).mp c_73))
        have hl := lv_sub (l' := [(0, .ref (ad 17)), (1, .int (nI n)), (2, .int (nI d)), (3, .int (oI (mNear W0 8))), (4, .int 0)]) hl [1, 2, 3, 4, 0] rfl
        have hl := lv_cast hl (congrArg (fun z : Int32 => ([(0, .ref (ad 17)), (1, .int (nI n)), (2, .int (nI d)), (3, .int z), (4, .int 0)] : List (Nat × Value))) (show oI (mNear W0 8) = nI (mNear W0 8 - 1) from p_11.2))
        have hl := lv_cast hl (congrArg (fun z : Int32 => ([(0, .ref (ad 17)), (1, .int (nI n)), (2, .int (nI d)), (3, .int (nI (mNear W0 8 - 1))), (4, .int z)] : List (Nat × Value))) (show 0 = nI 0 from rfl))
        have eV : xu W0 16 (mNear W0 8 - 1) 1 = mSpr (xu W0 16 (mNear W0 8 - 1) 1) (mNear W0 8 - 1) 0 := rfl
        rw [eV] at G
        exact loop_24 (nc + 1) 0 (by omega) (by omega) _ _ _ G hl
  have hl := lv_sub (l' := [(0, .ref (ad 17)), (1, .int (nI n)), (2, .int (nI d)), (3, .int (oI (mNear (mBeg V n 8) 8)))]) hl [1, 2, 3, 0] rfl
  exact outer 9 (mBeg V n 8) (by have := cntP_le (fun j => decide (mBeg V n 8 16 j = 0)) 8; unfold mUnf; omega) (mBeg_o _ _ _ (by decide) (by decide)) (mBeg_o _ _ _ (by decide) (by decide)) rfl _ _ _ G hl
