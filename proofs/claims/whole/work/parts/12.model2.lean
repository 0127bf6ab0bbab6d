/-- none as -1, k as k - 1 -/
def oI (k : Nat) : Int32 := if k = 0 then -1 else nI (k - 1)
theorem oI_s (k : Nat) : oI (k + 1) = nI k := rfl
theorem oI_neg {k : Nat} (h : k < 2 ^ 31) : oI k < 0 ↔ k = 0 := by
  unfold oI
  by_cases c : k = 0
  · rw [if_pos c]; simp [c]
  · rw [if_neg c]
    simp only [c, iff_false]
    exact nI_pos (by omega)
theorem oI_pos {k : Nat} (hk : k < 2 ^ 31) (h : ¬ oI k < 0) : k ≠ 0 ∧ oI k = nI (k - 1) := by
  have c : k ≠ 0 := fun c => h ((oI_neg hk).mpr c)
  exact ⟨c, by unfold oI; rw [if_neg c]⟩
/-- the last bundle in the order of those that the node has and isn't the custodian of, among the first k: 0 for none -/
def mLast (V : xV) (n : Nat) : Nat → Nat
  | 0 => 0
  | k + 1 => if mHas V n k = true ∧ V 3 k ≠ nI n ∧ (mLast V n k = 0 ∨ mPre V (mLast V n k - 1) k = true) then k + 1 else mLast V n k
theorem mLast_le (V : xV) (n k : Nat) : mLast V n k ≤ k := by
  induction k with
  | zero => exact Nat.le_refl 0
  | succ k ih => unfold mLast; split <;> omega
theorem mLast_t {V : xV} {n k : Nat} (h1 : mHas V n k = true) (h2 : V 3 k ≠ nI n) (h3 : mLast V n k = 0 ∨ mPre V (mLast V n k - 1) k = true) : mLast V n (k + 1) = k + 1 := if_pos ⟨h1, h2, h3⟩
theorem mLast_f {V : xV} {n k : Nat} (h : ¬ (mHas V n k = true ∧ V 3 k ≠ nI n ∧ (mLast V n k = 0 ∨ mPre V (mLast V n k - 1) k = true))) : mLast V n (k + 1) = mLast V n k := if_neg h
theorem mHas_t {V : xV} {n k : Nat} (h : ¬ V 6 (40 * n + k) ≤ 0) : mHas V n k = true := decide_eq_true (i_nle.mp h)
theorem mHas_f {V : xV} {n k : Nat} (h : V 6 (40 * n + k) ≤ 0) : ¬ mHas V n k = true := by unfold mHas; rw [decide_eq_true_eq]; exact i_nlt.mpr h
set_option maxHeartbeats 4000000 in
set_option maxRecDepth 100000 in
theorem c_X3_last (l : Launch) {D : va_G} {sh : xS} {ad : Nat → Nat} {cI : ClassId} {tys : List (ClassId × FieldType)} (M : xMm sh ad cI tys) (V : xV) (n cnt : Nat) (hn : n < 8) (hcnt : V 17 17 = nI cnt) (hc40 : cnt ≤ 40) : xMi l yX3_last wsX3_last (rmK 1) D sh ad tys V [.ref (ad 17), .int (nI n)] (oI (mLast V n cnt)) V := by
  refine xOfi (cc := cX3_last) (nL := 4) (ret := some .int) (own := RX3) (by decide) rfl rfl (Nat.le_of_ble_eq_true rfl) M.2.2 ?_
  intro p e s m args below meth c A ls B G hl
  have hx := B.1.1
  have hb := B.1.2.1
  have hin : ∀ w ∈ wsX30, w ∈ wsX3_last := by decide +kernel
  have hl : lv_has ls 4 [(0, .ref (ad 17)), (1, .int (nI n))] := hl
  refine lv_iconst (v := (-1)) hx hb dX3_last_0 (by decide) ?_
  refine lv_istore_n (lv' := [(2, .int (-1)), (0, .ref (ad 17)), (1, .int (nI n))]) hx hb dX3_last_1 rfl hl (by decide) rfl (fun ls hl => ?_)
  refine lv_iconst (v := 0) hx hb dX3_last_2 (by decide) ?_
  refine lv_istore_n (lv' := [(3, .int 0), (2, .int (-1)), (0, .ref (ad 17)), (1, .int (nI n))]) hx hb dX3_last_3 rfl hl (by decide) rfl (fun ls hl => ?_)
  have loop_4 : ∀ (f i : Nat), i ≤ cnt → cnt < i + f → ∀ (H : Heap) (locs : List Loc) (ls : Array Slot), xG D sh ad A s.heap V H locs → lv_has ls 4 [(0, .ref (ad 17)), (1, .int (nI n)), (2, .int (oI (mLast V n i))), (3, .int (nI i))] → W p l e (rmK 1) s m args below meth c H locs 0 0 (xQi below D sh ad tys A args s (oI (mLast V n cnt)) V) (F0 m 4 ls []) := by
    intro f
    induction f with
    | zero => intro i h1 h2; exact absurd h2 (by omega)
    | succ f ih =>
      intro i hi hf H locs ls G hl
      refine lv_iload_n hx hb dX3_last_4 rfl (lv_at hl 3 rfl) ?_
      refine lv_aload_n hx hb dX3_last_5 rfl (lv_at hl 0 rfl) ?_
      refine m_getI B G M hin 17 (by decide) (by decide +kernel) dX3_last_6 ?_
      refine x_top (show _ = nI cnt from hcnt) ?_
      refine lv_icmp_ge (tgt := 57) hx hb dX3_last_9 (by decide) (fun c_9 => ?_) (fun c_9 => ?_)
      · skip
        have c_9 : cnt ≤ i := (nI_leI (a := cnt) (b := i) (by omega) (by omega)).mp c_9
        refine lv_iload_n hx hb dX3_last_57 rfl (lv_at hl 2 rfl) ?_
        exact x_iret B G (by rw [show i = cnt by omega]) (rfl) dX3_last_58
      · skip
        have c_9 : ¬ (cnt ≤ i) := fun h9 => c_9 ((nI_leI (a := cnt) (b := i) (by omega) (by omega)).mpr h9)
        refine lv_aload_n hx hb dX3_last_12 rfl (lv_at hl 0 rfl) ?_
        refine m_getA B G M hin 6 (by decide) (by decide +kernel) dX3_last_13 ?_
        refine lv_bipush (v := 40) hx hb dX3_last_16 (by decide) ?_
        refine lv_iload_n hx hb dX3_last_18 rfl (lv_at hl 1 rfl) ?_
        refine lv_imul hx hb dX3_last_19 ?_
        refine x_top (show 40 * (nI n) = nI (40 * n) from pk_mul 40 n) ?_
        refine lv_iload_n hx hb dX3_last_20 rfl (lv_at hl 3 rfl) ?_
        refine lv_iadd hx hb dX3_last_21 ?_
        refine x_top (show (nI (40 * n)) + (nI i) = nI ((40 * n) + i) from nI_add (40 * n) i) ?_
        refine m_ald B G M 6 (by decide) ((40 * n) + i) (show ((40 * n) + i) < 320 by omega) rfl dX3_last_22 ?_
        refine lv_if_le (tgt := 51) hx hb dX3_last_23 (by decide) (fun c_23 => ?_) (fun c_23 => ?_)
        · skip
          refine lv_iinc (v := nI (i + 1)) (lv' := [(3, .int (nI (i + 1))), (0, .ref (ad 17)), (1, .int (nI n)), (2, .int (oI (mLast V n i)))]) hx hb dX3_last_51 hl (k := 3) rfl (nI_add i 1) (by decide) rfl (fun ls hl => ?_)
          refine lv_goto (tgt := 4) hx hb dX3_last_54 (by decide) ?_
          have hl := lv_sub (l' := [(0, .ref (ad 17)), (1, .int (nI n)), (2, .int (oI (mLast V n i))), (3, .int (nI (i + 1)))]) hl [1, 2, 3, 0] rfl
          have hl := lv_cast hl (congrArg (fun z : Int32 => ([(0, .ref (ad 17)), (1, .int (nI n)), (2, .int z), (3, .int (nI (i + 1)))] : List (Nat × Value))) (show oI (mLast V n i) = oI (mLast V n (i + 1)) from congrArg oI (mLast_f (fun h => mHas_f c_23 h.1)).symm))
          exact ih (i + 1) (by omega) (by omega) _ _ _ G hl
        · skip
          refine lv_aload_n hx hb dX3_last_26 rfl (lv_at hl 0 rfl) ?_
          refine m_getA B G M hin 3 (by decide) (by decide +kernel) dX3_last_27 ?_
          refine lv_iload_n hx hb dX3_last_30 rfl (lv_at hl 3 rfl) ?_
          refine m_ald B G M 3 (by decide) i (show i < 40 by omega) rfl dX3_last_31 ?_
          refine lv_iload_n hx hb dX3_last_32 rfl (lv_at hl 1 rfl) ?_
          refine lv_icmp_eq (tgt := 51) hx hb dX3_last_33 (by decide) (fun c_33 => ?_) (fun c_33 => ?_)
          · skip
            refine lv_iinc (v := nI (i + 1)) (lv' := [(3, .int (nI (i + 1))), (0, .ref (ad 17)), (1, .int (nI n)), (2, .int (oI (mLast V n i)))]) hx hb dX3_last_51 hl (k := 3) rfl (nI_add i 1) (by decide) rfl (fun ls hl => ?_)
            refine lv_goto (tgt := 4) hx hb dX3_last_54 (by decide) ?_
            have hl := lv_sub (l' := [(0, .ref (ad 17)), (1, .int (nI n)), (2, .int (oI (mLast V n i))), (3, .int (nI (i + 1)))]) hl [1, 2, 3, 0] rfl
            have hl := lv_cast hl (congrArg (fun z : Int32 => ([(0, .ref (ad 17)), (1, .int (nI n)), (2, .int z), (3, .int (nI (i + 1)))] : List (Nat × Value))) (show oI (mLast V n i) = oI (mLast V n (i + 1)) from congrArg oI (mLast_f (fun h => h.2.1 c_33)).symm))
            exact ih (i + 1) (by omega) (by omega) _ _ _ G hl
          · skip
            refine lv_iload_n hx hb dX3_last_36 rfl (lv_at hl 2 rfl) ?_
            refine lv_if_lt (tgt := 49) hx hb dX3_last_37 (by decide) (fun c_37 => ?_) (fun c_37 => ?_)
            · skip
              refine lv_iload_n hx hb dX3_last_49 rfl (lv_at hl 3 rfl) ?_
              refine lv_istore_n (lv' := [(2, .int (nI i)), (0, .ref (ad 17)), (1, .int (nI n)), (3, .int (nI i))]) hx hb dX3_last_50 rfl hl (by decide) rfl (fun ls hl => ?_)
              refine lv_iinc (v := nI (i + 1)) (lv' := [(3, .int (nI (i + 1))), (2, .int (nI i)), (0, .ref (ad 17)), (1, .int (nI n))]) hx hb dX3_last_51 hl (k := 3) rfl (nI_add i 1) (by decide) rfl (fun ls hl => ?_)
              refine lv_goto (tgt := 4) hx hb dX3_last_54 (by decide) ?_
              have hl := lv_sub (l' := [(0, .ref (ad 17)), (1, .int (nI n)), (2, .int (nI i)), (3, .int (nI (i + 1)))]) hl [2, 3, 1, 0] rfl
              have hl := lv_cast hl (congrArg (fun z : Int32 => ([(0, .ref (ad 17)), (1, .int (nI n)), (2, .int z), (3, .int (nI (i + 1)))] : List (Nat × Value))) (show nI i = oI (mLast V n (i + 1)) from (congrArg oI (mLast_t (mHas_t c_23) c_33 (Or.inl ((oI_neg (by have := mLast_le V n i; omega)).mp c_37)))).symm))
              exact ih (i + 1) (by omega) (by omega) _ _ _ G hl
            · skip
              have b_37 := mLast_le V n i
              have p_37 := oI_pos (by omega) c_37
              refine lv_aload_n hx hb dX3_last_40 rfl (lv_at hl 0 rfl) ?_
              refine lv_iload_n hx hb dX3_last_41 rfl (lv_at hl 2 rfl) ?_
              refine x_top (show _ = nI (mLast V n i - 1) from p_37.2) ?_
              refine lv_iload_n hx hb dX3_last_42 rfl (lv_at hl 3 rfl) ?_
              refine x_callVi (rest := []) B G (c_X3_precedes l M V (mLast V n i - 1) i (by omega) (by omega)) (cwV 2 B.1.2.2.2.2 gX3_last_X3_precedes rfl rfl rfl (by decide +kernel) ⟨Nat.le_of_ble_eq_true rfl, Nat.le_of_ble_eq_true rfl⟩) (m_recv B G M) rfl hl.1 rfl (Nat.le_of_ble_eq_true rfl) ⟨Nat.zero_le _, Nat.zero_le _⟩ dX3_last_43 (fun H locs G => ?_)
              refine lv_if_eq (tgt := 51) hx hb dX3_last_46 (by decide) (fun c_46 => ?_) (fun c_46 => ?_)
              · skip
                refine lv_iinc (v := nI (i + 1)) (lv' := [(3, .int (nI (i + 1))), (0, .ref (ad 17)), (1, .int (nI n)), (2, .int (oI (mLast V n i)))]) hx hb dX3_last_51 hl (k := 3) rfl (nI_add i 1) (by decide) rfl (fun ls hl => ?_)
                refine lv_goto (tgt := 4) hx hb dX3_last_54 (by decide) ?_
                have hl := lv_sub (l' := [(0, .ref (ad 17)), (1, .int (nI n)), (2, .int (oI (mLast V n i))), (3, .int (nI (i + 1)))]) hl [1, 2, 3, 0] rfl
                have hl := lv_cast hl (congrArg (fun z : Int32 => ([(0, .ref (ad 17)), (1, .int (nI n)), (2, .int z), (3, .int (nI (i + 1)))] : List (Nat × Value))) (show oI (mLast V n i) = oI (mLast V n (i + 1)) from congrArg oI (mLast_f (fun h => h.2.2.elim (fun z => p_37.1 z) (fun z => b2i_0.mp c_46 z))).symm))
                exact ih (i + 1) (by omega) (by omega) _ _ _ G hl
              · skip
                refine lv_iload_n hx hb dX3_last_49 rfl (lv_at hl 3 rfl) ?_
                refine lv_istore_n (lv' := [(2, .int (nI i)), (0, .ref (ad 17)), (1, .int (nI n)), (3, .int (nI i))]) hx hb dX3_last_50 rfl hl (by decide) rfl (fun ls hl => ?_)
                refine lv_iinc (v := nI (i + 1)) (lv' := [(3, .int (nI (i + 1))), (2, .int (nI i)), (0, .ref (ad 17)), (1, .int (nI n))]) hx hb dX3_last_51 hl (k := 3) rfl (nI_add i 1) (by decide) rfl (fun ls hl => ?_)
                refine lv_goto (tgt := 4) hx hb dX3_last_54 (by decide) ?_
                have hl := lv_sub (l' := [(0, .ref (ad 17)), (1, .int (nI n)), (2, .int (nI i)), (3, .int (nI (i + 1)))]) hl [2, 3, 1, 0] rfl
                have hl := lv_cast hl (congrArg (fun z : Int32 => ([(0, .ref (ad 17)), (1, .int (nI n)), (2, .int z), (3, .int (nI (i + 1)))] : List (Nat × Value))) (show nI i = oI (mLast V n (i + 1)) from (congrArg oI (mLast_t (mHas_t c_23) c_33 (Or.inr (by have z := mt b2i_0.mpr c_46; simpa using z)))).symm))
                exact ih (i + 1) (by omega) (by omega) _ _ _ G hl
  have hl := lv_sub (l' := [(0, .ref (ad 17)), (1, .int (nI n)), (2, .int (-1)), (3, .int 0)]) hl [2, 3, 1, 0] rfl
  have hl := lv_cast hl (congrArg (fun z : Int32 => ([(0, .ref (ad 17)), (1, .int (nI n)), (2, .int z), (3, .int 0)] : List (Nat × Value))) (show (-1) = oI (mLast V n 0) from rfl))
  have hl := lv_cast hl (congrArg (fun z : Int32 => ([(0, .ref (ad 17)), (1, .int (nI n)), (2, .int (oI (mLast V n 0))), (3, .int z)] : List (Nat × Value))) (show 0 = nI 0 from rfl))
  exact loop_4 (cnt + 1) 0 (by omega) (by omega) _ _ _ G hl
/-- room at a node for a bundle of a priority: whether, and the world behind it -/
def mRoomB (V : xV) (n : Nat) (prio : Int32) (cnt : Nat) : Bool := if V 9 n ≤ nI (cntP (mHas V n) cnt) then (if mLast V n cnt = 0 then false else decide (V 1 (mLast V n cnt - 1) < prio)) else true
def mRoomV (V : xV) (n : Nat) (prio : Int32) (cnt : Nat) : xV := if V 9 n ≤ nI (cntP (mHas V n) cnt) then (if mLast V n cnt = 0 then V else if V 1 (mLast V n cnt - 1) < prio then xu (xu V 6 (40 * n + (mLast V n cnt - 1)) 0) 10 n (V 10 n + 1) else V) else V
theorem b2i_true : b2i (true = true) = 1 := b2i_t rfl
theorem b2i_false : b2i (false = true) = 0 := b2i_f (by decide)
set_option maxHeartbeats 4000000 in
set_option maxRecDepth 100000 in
theorem c_X3_hasRoom (l : Launch) {D : va_G} {sh : xS} {ad : Nat → Nat} {cI : ClassId} {tys : List (ClassId × FieldType)} (M : xMm sh ad cI tys) (V : xV) (n cnt : Nat) (prio : Int32) (hn : n < 8) (hcnt : V 17 17 = nI cnt) (hc40 : cnt ≤ 40) : xMi l yX3_hasRoom wsX3_hasRoom (rmK 2) D sh ad tys V [.ref (ad 17), .int (nI n), .int prio] (b2i (mRoomB V n prio cnt = true)) (mRoomV V n prio cnt) := by
  refine xOfi (cc := cX3_hasRoom) (nL := 4) (ret := some .boolean) (own := RX3) (by decide) rfl rfl (Nat.le_of_ble_eq_true rfl) M.2.2 ?_
  intro p e s m args below meth c A ls B G hl
  have hx := B.1.1
  have hb := B.1.2.1
  have hin : ∀ w ∈ wsX30, w ∈ wsX3_hasRoom := by decide +kernel
  have hl : lv_has ls 4 [(0, .ref (ad 17)), (1, .int (nI n)), (2, .int prio)] := hl
  refine lv_aload_n hx hb dX3_hasRoom_0 rfl (lv_at hl 0 rfl) ?_
  refine lv_iload_n hx hb dX3_hasRoom_1 rfl (lv_at hl 1 rfl) ?_
  refine x_callVi (rest := []) B G (c_X3_load l M V n cnt hn hcnt hc40) (cwV 1 B.1.2.2.2.2 gX3_hasRoom_X3_load rfl rfl rfl (by decide +kernel) ⟨Nat.le_of_ble_eq_true rfl, Nat.le_of_ble_eq_true rfl⟩) (m_recv B G M) rfl hl.1 rfl (Nat.le_of_ble_eq_true rfl) ⟨Nat.zero_le _, Nat.zero_le _⟩ dX3_hasRoom_2 (fun H locs G => ?_)
  refine lv_aload_n hx hb dX3_hasRoom_5 rfl (lv_at hl 0 rfl) ?_
  refine m_getA B G M hin 9 (by decide) (by decide +kernel) dX3_hasRoom_6 ?_
  refine lv_iload_n hx hb dX3_hasRoom_9 rfl (lv_at hl 1 rfl) ?_
  refine m_ald B G M 9 (by decide) n (show n < 8 by omega) rfl dX3_hasRoom_10 ?_
  refine lv_icmp_ge (tgt := 16) hx hb dX3_hasRoom_11 (by decide) (fun c_11 => ?_) (fun c_11 => ?_)
  · skip
    refine lv_aload_n hx hb dX3_hasRoom_16 rfl (lv_at hl 0 rfl) ?_
    refine lv_iload_n hx hb dX3_hasRoom_17 rfl (lv_at hl 1 rfl) ?_
    refine x_callVi (rest := []) B G (c_X3_last l M V n cnt hn hcnt hc40) (cwV 1 B.1.2.2.2.2 gX3_hasRoom_X3_last rfl rfl rfl (by decide +kernel) ⟨Nat.le_of_ble_eq_true rfl, Nat.le_of_ble_eq_true rfl⟩) (m_recv B G M) rfl hl.1 rfl (Nat.le_of_ble_eq_true rfl) ⟨Nat.zero_le _, Nat.zero_le _⟩ dX3_hasRoom_18 (fun H locs G => ?_)
    refine lv_istore_n (lv' := [(3, .int (oI (mLast V n cnt))), (0, .ref (ad 17)), (1, .int (nI n)), (2, .int prio)]) hx hb dX3_hasRoom_21 rfl hl (by decide) rfl (fun ls hl => ?_)
    have b_23 := mLast_le V n cnt
    refine lv_iload_n hx hb dX3_hasRoom_22 rfl (lv_at hl 0 rfl) ?_
    refine lv_if_lt (tgt := 36) hx hb dX3_hasRoom_23 (by decide) (fun c_23 => ?_) (fun c_23 => ?_)
    · skip
      have z_23 := (oI_neg (by omega)).mp c_23
      refine lv_iconst (v := 0) hx hb dX3_hasRoom_36 (by decide) ?_
      exact x_zret B G (Or.inl rfl) (by unfold mRoomB; rw [if_pos c_11, if_pos z_23]; exact b2i_false.symm) (by unfold mRoomV; rw [if_pos c_11, if_pos z_23]) dX3_hasRoom_37
    · skip
      have p_23 := oI_pos (by omega) c_23
      refine lv_aload_n hx hb dX3_hasRoom_26 rfl (lv_at hl 1 rfl) ?_
      refine m_getA B G M hin 1 (by decide) (by decide +kernel) dX3_hasRoom_27 ?_
      refine lv_iload_n hx hb dX3_hasRoom_30 rfl (lv_at hl 0 rfl) ?_
      refine x_top (show _ = nI (mLast V n cnt - 1) from p_23.2) ?_
      refine m_ald B G M 1 (by decide) (mLast V n cnt - 1) (show (mLast V n cnt - 1) < 40 by omega) rfl dX3_hasRoom_31 ?_
      refine lv_iload_n hx hb dX3_hasRoom_32 rfl (lv_at hl 3 rfl) ?_
      refine lv_icmp_lt (tgt := 38) hx hb dX3_hasRoom_33 (by decide) (fun c_33 => ?_) (fun c_33 => ?_)
      · skip
        refine lv_aload_n hx hb dX3_hasRoom_38 rfl (lv_at hl 1 rfl) ?_
        refine m_getA B G M hin 6 (by decide) (by decide +kernel) dX3_hasRoom_39 ?_
        refine lv_bipush (v := 40) hx hb dX3_hasRoom_42 (by decide) ?_
        refine lv_iload_n hx hb dX3_hasRoom_44 rfl (lv_at hl 2 rfl) ?_
        refine lv_imul hx hb dX3_hasRoom_45 ?_
        refine x_top (show 40 * (nI n) = nI (40 * n) from pk_mul 40 n) ?_
        refine lv_iload_n hx hb dX3_hasRoom_46 rfl (lv_at hl 0 rfl) ?_
        refine x_top (show _ = nI (mLast V n cnt - 1) from p_23.2) ?_
        refine lv_iadd hx hb dX3_hasRoom_47 ?_
        refine x_top (show (nI (40 * n)) + (nI (mLast V n cnt - 1)) = nI ((40 * n) + (mLast V n cnt - 1)) from nI_add (40 * n) (mLast V n cnt - 1)) ?_
        refine lv_iconst (v := 0) hx hb dX3_hasRoom_48 (by decide) ?_
        refine m_ast B G M 6 (by decide) ((40 * n) + (mLast V n cnt - 1)) (show ((40 * n) + (mLast V n cnt - 1)) < 320 by omega) rfl dX3_hasRoom_49 (fun H locs G => ?_)
        refine lv_aload_n hx hb dX3_hasRoom_50 rfl (lv_at hl 1 rfl) ?_
        refine m_getA B G M hin 10 (by decide) (by decide +kernel) dX3_hasRoom_51 ?_
        refine lv_iload_n hx hb dX3_hasRoom_54 rfl (lv_at hl 2 rfl) ?_
        refine lv_dup2_11 hx hb dX3_hasRoom_55 rfl rfl ?_
        refine m_ald B G M 10 (by decide) n (show n < 8 by omega) rfl dX3_hasRoom_56 ?_
        refine lv_iconst (v := 1) hx hb dX3_hasRoom_57 (by decide) ?_
        refine lv_iadd hx hb dX3_hasRoom_58 ?_
        refine m_ast B G M 10 (by decide) n (show n < 8 by omega) rfl dX3_hasRoom_59 (fun H locs G => ?_)
        refine lv_iconst (v := 1) hx hb dX3_hasRoom_60 (by decide) ?_
        exact x_zret B G (Or.inr rfl) (by unfold mRoomB; rw [if_pos c_11, if_neg p_23.1, decide_eq_true c_33]; exact b2i_true.symm) (by unfold mRoomV; rw [if_pos c_11, if_neg p_23.1, if_pos c_33]; rfl) dX3_hasRoom_61
      · skip
        refine lv_iconst (v := 0) hx hb dX3_hasRoom_36 (by decide) ?_
        exact x_zret B G (Or.inl rfl) (by unfold mRoomB; rw [if_pos c_11, if_neg p_23.1, decide_eq_false c_33]; exact b2i_false.symm) (by unfold mRoomV; rw [if_pos c_11, if_neg p_23.1, if_neg c_33]) dX3_hasRoom_37
  · skip
    refine lv_iconst (v := 1) hx hb dX3_hasRoom_14 (by decide) ?_
    exact x_zret B G (Or.inr rfl) (by unfold mRoomB; rw [if_neg c_11]; exact b2i_true.symm) (by unfold mRoomV; rw [if_neg c_11]) dX3_hasRoom_15
/-- a node learns that a bundle is delivered -/
def mLearn (V : xV) (n k : Nat) : xV := if V 3 k = nI n then xu (xu (xu V 8 (40 * n + k) 1) 6 (40 * n + k) 0) 3 k (-1) else xu (xu V 8 (40 * n + k) 1) 6 (40 * n + k) 0
theorem mLearn_o (V : xV) (n k : Nat) {i : Nat} (h3 : i ≠ 3) (h6 : i ≠ 6) (h8 : i ≠ 8) : mLearn V n k i = V i := by
  unfold mLearn
  split
  · rw [xu_ne _ _ _ h3, xu_ne _ _ _ h6, xu_ne _ _ _ h8]
  · rw [xu_ne _ _ _ h6, xu_ne _ _ _ h8]
set_option maxHeartbeats 4000000 in
set_option maxRecDepth 100000 in
theorem c_X3_learn (l : Launch) {D : va_G} {sh : xS} {ad : Nat → Nat} {cI : ClassId} {tys : List (ClassId × FieldType)} (M : xMm sh ad cI tys) (V : xV) (n k : Nat) (hn : n < 8) (hk : k < 40) : xMv l yX3_learn wsX3_learn (rmK 0) D sh ad tys V [.ref (ad 17), .int (nI n), .int (nI k)] (mLearn V n k) := by
  refine xOfv (cc := cX3_learn) (nL := 3) (ret := none) (own := RX3) (by decide) rfl rfl (Nat.le_of_ble_eq_true rfl) M.2.2 ?_
  intro p e s m args below meth c A ls B G hl
  have hx := B.1.1
  have hb := B.1.2.1
  have hin : ∀ w ∈ wsX30, w ∈ wsX3_learn := by decide +kernel
  have hl : lv_has ls 3 [(0, .ref (ad 17)), (1, .int (nI n)), (2, .int (nI k))] := hl
  refine lv_aload_n hx hb dX3_learn_0 rfl (lv_at hl 0 rfl) ?_
  refine m_getA B G M hin 8 (by decide) (by decide +kernel) dX3_learn_1 ?_
  refine lv_bipush (v := 40) hx hb dX3_learn_4 (by decide) ?_
  refine lv_iload_n hx hb dX3_learn_6 rfl (lv_at hl 1 rfl) ?_
  refine lv_imul hx hb dX3_learn_7 ?_
  refine x_top (show 40 * (nI n) = nI (40 * n) from pk_mul 40 n) ?_
  refine lv_iload_n hx hb dX3_learn_8 rfl (lv_at hl 2 rfl) ?_
  refine lv_iadd hx hb dX3_learn_9 ?_
  refine x_top (show (nI (40 * n)) + (nI k) = nI ((40 * n) + k) from nI_add (40 * n) k) ?_
  refine lv_iconst (v := 1) hx hb dX3_learn_10 (by decide) ?_
  refine m_ast B G M 8 (by decide) ((40 * n) + k) (show ((40 * n) + k) < 320 by omega) rfl dX3_learn_11 (fun H locs G => ?_)
  refine lv_aload_n hx hb dX3_learn_12 rfl (lv_at hl 0 rfl) ?_
  refine m_getA B G M hin 6 (by decide) (by decide +kernel) dX3_learn_13 ?_
  refine lv_bipush (v := 40) hx hb dX3_learn_16 (by decide) ?_
  refine lv_iload_n hx hb dX3_learn_18 rfl (lv_at hl 1 rfl) ?_
  refine lv_imul hx hb dX3_learn_19 ?_
  refine x_top (show 40 * (nI n) = nI (40 * n) from pk_mul 40 n) ?_
  refine lv_iload_n hx hb dX3_learn_20 rfl (lv_at hl 2 rfl) ?_
  refine lv_iadd hx hb dX3_learn_21 ?_
  refine x_top (show (nI (40 * n)) + (nI k) = nI ((40 * n) + k) from nI_add (40 * n) k) ?_
  refine lv_iconst (v := 0) hx hb dX3_learn_22 (by decide) ?_
  refine m_ast B G M 6 (by decide) ((40 * n) + k) (show ((40 * n) + k) < 320 by omega) rfl dX3_learn_23 (fun H locs G => ?_)
  refine lv_aload_n hx hb dX3_learn_24 rfl (lv_at hl 0 rfl) ?_
  refine m_getA B G M hin 3 (by decide) (by decide +kernel) dX3_learn_25 ?_
  refine lv_iload_n hx hb dX3_learn_28 rfl (lv_at hl 2 rfl) ?_
  refine m_ald B G M 3 (by decide) k (show k < 40 by omega) rfl dX3_learn_29 ?_
  refine lv_iload_n hx hb dX3_learn_30 rfl (lv_at hl 1 rfl) ?_
  refine lv_icmp_ne (tgt := 41) hx hb dX3_learn_31 (by decide) (fun c_31 => ?_) (fun c_31 => ?_)
  · skip
    exact x_vret B G ((if_neg c_31).symm) dX3_learn_41
  · skip
    refine lv_aload_n hx hb dX3_learn_34 rfl (lv_at hl 0 rfl) ?_
    refine m_getA B G M hin 3 (by decide) (by decide +kernel) dX3_learn_35 ?_
    refine lv_iload_n hx hb dX3_learn_38 rfl (lv_at hl 2 rfl) ?_
    refine lv_iconst (v := (-1)) hx hb dX3_learn_39 (by decide) ?_
    refine m_ast B G M 3 (by decide) k (show k < 40 by omega) rfl dX3_learn_40 (fun H locs G => ?_)
    exact x_vret B G ((if_pos c_31).symm) dX3_learn_41
def mTalk (V : xV) (a b : Nat) : Nat → xV
  | 0 => V
  | k + 1 => if mTalk V a b k 8 (40 * a + k) + mTalk V a b k 8 (40 * b + k) = 1 then mLearn (mLearn (mTalk V a b k) a k) b k else mTalk V a b k
theorem mTalk_o (V : xV) (a b k : Nat) {i : Nat} (h3 : i ≠ 3) (h6 : i ≠ 6) (h8 : i ≠ 8) : mTalk V a b k i = V i := by
  induction k with
  | zero => rfl
  | succ k ih =>
    unfold mTalk
    split
    · rw [mLearn_o _ _ _ h3 h6 h8, mLearn_o _ _ _ h3 h6 h8, ih]
    · exact ih
set_option maxHeartbeats 4000000 in
set_option maxRecDepth 100000 in
theorem c_X3_talk (l : Launch) {D : va_G} {sh : xS} {ad : Nat → Nat} {cI : ClassId} {tys : List (ClassId × FieldType)} (M : xMm sh ad cI tys) (V : xV) (a b cnt : Nat) (ha : a < 8) (hb8 : b < 8) (hcnt : V 17 17 = nI cnt) (hc40 : cnt ≤ 40) : xMv l yX3_talk wsX3_talk (rmK 1) D sh ad tys V [.ref (ad 17), .int (nI a), .int (nI b)] (mTalk V a b cnt) := by
  refine xOfv (cc := cX3_talk) (nL := 4) (ret := none) (own := RX3) (by decide) rfl rfl (Nat.le_of_ble_eq_true rfl) M.2.2 ?_
  intro p e s m args below meth c A ls B G hl
  have hx := B.1.1
  have hb := B.1.2.1
  have hin : ∀ w ∈ wsX30, w ∈ wsX3_talk := by decide +kernel
  have hl : lv_has ls 4 [(0, .ref (ad 17)), (1, .int (nI a)), (2, .int (nI b))] := hl
  refine lv_iconst (v := 0) hx hb dX3_talk_0 (by decide) ?_
  refine lv_istore_n (lv' := [(3, .int 0), (0, .ref (ad 17)), (1, .int (nI a)), (2, .int (nI b))]) hx hb dX3_talk_1 rfl hl (by decide) rfl (fun ls hl => ?_)
  have loop_2 : ∀ (f i : Nat), i ≤ cnt → cnt < i + f → ∀ (H : Heap) (locs : List Loc) (ls : Array Slot), xG D sh ad A s.heap (mTalk V a b i) H locs → lv_has ls 4 [(0, .ref (ad 17)), (1, .int (nI a)), (2, .int (nI b)), (3, .int (nI i))] → W p l e (rmK 1) s m args below meth c H locs 0 0 (xQv below D sh ad tys A args s (mTalk V a b cnt)) (F0 m 2 ls []) := by
    intro f
    induction f with
    | zero => intro i h1 h2; exact absurd h2 (by omega)
    | succ f ih =>
      intro i hi hf H locs ls G hl
      refine lv_iload_n hx hb dX3_talk_2 rfl (lv_at hl 3 rfl) ?_
      refine lv_aload_n hx hb dX3_talk_3 rfl (lv_at hl 0 rfl) ?_
      refine m_getI B G M hin 17 (by decide) (by decide +kernel) dX3_talk_4 ?_
      refine x_top (show _ = nI cnt from (by rw [mTalk_o V a b i (by decide) (by decide) (by decide)]; exact hcnt)) ?_
      refine lv_icmp_ge (tgt := 55) hx hb dX3_talk_7 (by decide) (fun c_7 => ?_) (fun c_7 => ?_)
      · skip
        have c_7 : cnt ≤ i := (nI_leI (a := cnt) (b := i) (by omega) (by omega)).mp c_7
        exact x_vret B G (by rw [show i = cnt by omega]) dX3_talk_55
      · skip
        have c_7 : ¬ (cnt ≤ i) := fun h9 => c_7 ((nI_leI (a := cnt) (b := i) (by omega) (by omega)).mpr h9)
        refine lv_aload_n hx hb dX3_talk_10 rfl (lv_at hl 0 rfl) ?_
        refine m_getA B G M hin 8 (by decide) (by decide +kernel) dX3_talk_11 ?_
        refine lv_bipush (v := 40) hx hb dX3_talk_14 (by decide) ?_
        refine lv_iload_n hx hb dX3_talk_16 rfl (lv_at hl 1 rfl) ?_
        refine lv_imul hx hb dX3_talk_17 ?_
        refine x_top (show 40 * (nI a) = nI (40 * a) from pk_mul 40 a) ?_
        refine lv_iload_n hx hb dX3_talk_18 rfl (lv_at hl 3 rfl) ?_
        refine lv_iadd hx hb dX3_talk_19 ?_
        refine x_top (show (nI (40 * a)) + (nI i) = nI ((40 * a) + i) from nI_add (40 * a) i) ?_
        refine m_ald B G M 8 (by decide) ((40 * a) + i) (show ((40 * a) + i) < 320 by omega) rfl dX3_talk_20 ?_
        refine lv_aload_n hx hb dX3_talk_21 rfl (lv_at hl 0 rfl) ?_
        refine m_getA B G M hin 8 (by decide) (by decide +kernel) dX3_talk_22 ?_
        refine lv_bipush (v := 40) hx hb dX3_talk_25 (by decide) ?_
        refine lv_iload_n hx hb dX3_talk_27 rfl (lv_at hl 2 rfl) ?_
        refine lv_imul hx hb dX3_talk_28 ?_
        refine x_top (show 40 * (nI b) = nI (40 * b) from pk_mul 40 b) ?_
        refine lv_iload_n hx hb dX3_talk_29 rfl (lv_at hl 3 rfl) ?_
        refine lv_iadd hx hb dX3_talk_30 ?_
        refine x_top (show (nI (40 * b)) + (nI i) = nI ((40 * b) + i) from nI_add (40 * b) i) ?_
        refine m_ald B G M 8 (by decide) ((40 * b) + i) (show ((40 * b) + i) < 320 by omega) rfl dX3_talk_31 ?_
        refine lv_iadd hx hb dX3_talk_32 ?_
        refine lv_iconst (v := 1) hx hb dX3_talk_33 (by decide) ?_
        refine lv_icmp_ne (tgt := 49) hx hb dX3_talk_34 (by decide) (fun c_34 => ?_) (fun c_34 => ?_)
        · skip
          refine lv_iinc (v := nI (i + 1)) (lv' := [(3, .int (nI (i + 1))), (0, .ref (ad 17)), (1, .int (nI a)), (2, .int (nI b))]) hx hb dX3_talk_49 hl (k := 3) rfl (nI_add i 1) (by decide) rfl (fun ls hl => ?_)
          refine lv_goto (tgt := 2) hx hb dX3_talk_52 (by decide) ?_
          have hl := lv_sub (l' := [(0, .ref (ad 17)), (1, .int (nI a)), (2, .int (nI b)), (3, .int (nI (i + 1)))]) hl [1, 2, 3, 0] rfl
          have eV : mTalk V a b i = mTalk V a b (i + 1) := (if_neg c_34).symm
          rw [eV] at G
          exact ih (i + 1) (by omega) (by omega) _ _ _ G hl
        · skip
          refine lv_aload_n hx hb dX3_talk_37 rfl (lv_at hl 0 rfl) ?_
          refine lv_iload_n hx hb dX3_talk_38 rfl (lv_at hl 1 rfl) ?_
          refine lv_iload_n hx hb dX3_talk_39 rfl (lv_at hl 3 rfl) ?_
          refine x_callVv (rest := []) B G (c_X3_learn l M (mTalk V a b i) a i (by omega) (by omega)) (cwV 2 B.1.2.2.2.2 gX3_talk_X3_learn rfl rfl rfl (by decide +kernel) ⟨Nat.le_of_ble_eq_true rfl, Nat.le_of_ble_eq_true rfl⟩) (m_recv B G M) rfl hl.1 rfl (Nat.le_of_ble_eq_true rfl) ⟨Nat.zero_le _, Nat.zero_le _⟩ dX3_talk_40 (fun H locs G => ?_)
          refine lv_aload_n hx hb dX3_talk_43 rfl (lv_at hl 0 rfl) ?_
          refine lv_iload_n hx hb dX3_talk_44 rfl (lv_at hl 2 rfl) ?_
          refine lv_iload_n hx hb dX3_talk_45 rfl (lv_at hl 3 rfl) ?_
          refine x_callVv (rest := []) B G (c_X3_learn l M (mLearn (mTalk V a b i) a i) b i (by omega) (by omega)) (cwV 2 B.1.2.2.2.2 gX3_talk_X3_learn rfl rfl rfl (by decide +kernel) ⟨Nat.le_of_ble_eq_true rfl, Nat.le_of_ble_eq_true rfl⟩) (m_recv B G M) rfl hl.1 rfl (Nat.le_of_ble_eq_true rfl) ⟨Nat.zero_le _, Nat.zero_le _⟩ dX3_talk_46 (fun H locs G => ?_)
          refine lv_iinc (v := nI (i + 1)) (lv' := [(3, .int (nI (i + 1))), (0, .ref (ad 17)), (1, .int (nI a)), (2, .int (nI b))]) hx hb dX3_talk_49 hl (k := 3) rfl (nI_add i 1) (by decide) rfl (fun ls hl => ?_)
          refine lv_goto (tgt := 2) hx hb dX3_talk_52 (by decide) ?_
          have hl := lv_sub (l' := [(0, .ref (ad 17)), (1, .int (nI a)), (2, .int (nI b)), (3, .int (nI (i + 1)))]) hl [1, 2, 3, 0] rfl
          have eV : mLearn (mLearn (mTalk V a b i) a i) b i = mTalk V a b (i + 1) := (if_pos c_34).symm
          rw [eV] at G
          exact ih (i + 1) (by omega) (by omega) _ _ _ G hl
  have hl := lv_sub (l' := [(0, .ref (ad 17)), (1, .int (nI a)), (2, .int (nI b)), (3, .int 0)]) hl [1, 2, 3, 0] rfl
  have hl := lv_cast hl (congrArg (fun z : Int32 => ([(0, .ref (ad 17)), (1, .int (nI a)), (2, .int (nI b)), (3, .int z)] : List (Nat × Value))) (show 0 = nI 0 from rfl))
  have eV : V = mTalk V a b 0 := rfl
  rw [eV] at G
  exact loop_2 (cnt + 1) 0 (by omega) (by omega) _ _ _ G hl
def mWD (V : xV) (a b k : Nat) : Bool := decide (0 < V 6 (40 * a + k)) && decide (V 0 k = nI b)
def mWS (V : xV) (a b k : Nat) : Bool := decide (1 < V 6 (40 * a + k)) && (decide (¬ V 0 k = nI b) && (decide (¬ V 0 k = nI a) && decide (V 6 (40 * b + k) = 0)))
set_option maxHeartbeats 4000000 in
set_option maxRecDepth 100000 in
theorem c_X3_wantsD (l : Launch) {D : va_G} {sh : xS} {ad : Nat → Nat} {cI : ClassId} {tys : List (ClassId × FieldType)} (M : xMm sh ad cI tys) (V : xV) (a b k : Nat) (ha : a < 8) (hb8 : b < 8) (hk : k < 40) : xMi l yX3_wants wsX3_wants (rmK 0) D sh ad tys V [.ref (ad 17), .int (nI a), .int (nI b), .int (nI k), .int 1] (b2i (mWD V a b k = true)) V := by
  refine xOfi (cc := cX3_wants) (nL := 6) (ret := some .boolean) (own := RX3) (by decide) rfl rfl (Nat.le_of_ble_eq_true rfl) M.2.2 ?_
  intro p e s m args below meth c A ls B G hl
  have hx := B.1.1
  have hb := B.1.2.1
  have hin : ∀ w ∈ wsX30, w ∈ wsX3_wants := by decide +kernel
  have hl : lv_has ls 6 [(0, .ref (ad 17)), (1, .int (nI a)), (2, .int (nI b)), (3, .int (nI k)), (4, .int 1)] := hl
  refine lv_aload_n hx hb dX3_wants_0 rfl (lv_at hl 0 rfl) ?_
  refine m_getA B G M hin 6 (by decide) (by decide +kernel) dX3_wants_1 ?_
  refine lv_bipush (v := 40) hx hb dX3_wants_4 (by decide) ?_
  refine lv_iload_n hx hb dX3_wants_6 rfl (lv_at hl 1 rfl) ?_
  refine lv_imul hx hb dX3_wants_7 ?_
  refine x_top (show 40 * (nI a) = nI (40 * a) from pk_mul 40 a) ?_
  refine lv_iload_n hx hb dX3_wants_8 rfl (lv_at hl 3 rfl) ?_
  refine lv_iadd hx hb dX3_wants_9 ?_
  refine x_top (show (nI (40 * a)) + (nI k) = nI ((40 * a) + k) from nI_add (40 * a) k) ?_
  refine m_ald B G M 6 (by decide) ((40 * a) + k) (show ((40 * a) + k) < 320 by omega) rfl dX3_wants_10 ?_
  refine lv_istore (lv' := [(5, .int (V 6 ((40 * a) + k))), (0, .ref (ad 17)), (1, .int (nI a)), (2, .int (nI b)), (3, .int (nI k)), (4, .int 1)]) hx hb dX3_wants_11 hl (by decide) rfl (fun ls hl => ?_)
  refine lv_iload hx hb dX3_wants_13 (lv_at hl 5 rfl) ?_
  refine lv_if_eq (tgt := 39) hx hb dX3_wants_15 (by decide) (fun c_15 => ?_) (fun c_15 => ?_)
  · exact False.elim (absurd c_15 (by decide))
  · skip
    refine lv_iload hx hb dX3_wants_18 (lv_at hl 0 rfl) ?_
    refine lv_if_le (tgt := 37) hx hb dX3_wants_20 (by decide) (fun c_20 => ?_) (fun c_20 => ?_)
    · skip
      refine lv_iconst (v := 0) hx hb dX3_wants_37 (by decide) ?_
      exact x_zret B G (Or.inl rfl) ((b2i_f (by unfold mWD; simp only [Bool.and_eq_true, decide_eq_true_eq]; intro h9; obtain ⟨h1, h2⟩ := h9; first | contradiction | (simp only [i_lt, i_le, i_eq] at *; omega))).symm) (rfl) dX3_wants_38
    · skip
      refine lv_aload_n hx hb dX3_wants_23 rfl (lv_at hl 1 rfl) ?_
      refine m_getA B G M hin 0 (by decide) (by decide +kernel) dX3_wants_24 ?_
      refine lv_iload_n hx hb dX3_wants_27 rfl (lv_at hl 4 rfl) ?_
      refine m_ald B G M 0 (by decide) k (show k < 40 by omega) rfl dX3_wants_28 ?_
      refine lv_iload_n hx hb dX3_wants_29 rfl (lv_at hl 3 rfl) ?_
      refine lv_icmp_ne (tgt := 37) hx hb dX3_wants_30 (by decide) (fun c_30 => ?_) (fun c_30 => ?_)
      · skip
        refine lv_iconst (v := 0) hx hb dX3_wants_37 (by decide) ?_
        exact x_zret B G (Or.inl rfl) ((b2i_f (by unfold mWD; simp only [Bool.and_eq_true, decide_eq_true_eq]; intro h9; obtain ⟨h1, h2⟩ := h9; first | contradiction | (simp only [i_lt, i_le, i_eq] at *; omega))).symm) (rfl) dX3_wants_38
      · skip
        refine lv_iconst (v := 1) hx hb dX3_wants_33 (by decide) ?_
        refine lv_goto (tgt := 38) hx hb dX3_wants_34 (by decide) ?_
        exact x_zret B G (Or.inr rfl) ((b2i_t (by unfold mWD; simp only [Bool.and_eq_true, decide_eq_true_eq, i_lt, i_le, i_eq] at *; refine ⟨by first | assumption | omega, by first | assumption | omega⟩)).symm) (rfl) dX3_wants_38
set_option maxHeartbeats 4000000 in
set_option maxRecDepth 100000 in
theorem c_X3_wantsS (l : Launch) {D : va_G} {sh : xS} {ad : Nat → Nat} {cI : ClassId} {tys : List (ClassId × FieldType)} (M : xMm sh ad cI tys) (V : xV) (a b k : Nat) (ha : a < 8) (hb8 : b < 8) (hk : k < 40) : xMi l yX3_wants wsX3_wants (rmK 0) D sh ad tys V [.ref (ad 17), .int (nI a), .int (nI b), .int (nI k), .int 0] (b2i (mWS V a b k = true)) V := by
  refine xOfi (cc := cX3_wants) (nL := 6) (ret := some .boolean) (own := RX3) (by decide) rfl rfl (Nat.le_of_ble_eq_true rfl) M.2.2 ?_
  intro p e s m args below meth c A ls B G hl
  have hx := B.1.1
  have hb := B.1.2.1
  have hin : ∀ w ∈ wsX30, w ∈ wsX3_wants := by decide +kernel
  have hl : lv_has ls 6 [(0, .ref (ad 17)), (1, .int (nI a)), (2, .int (nI b)), (3, .int (nI k)), (4, .int 0)] := hl
  refine lv_aload_n hx hb dX3_wants_0 rfl (lv_at hl 0 rfl) ?_
  refine m_getA B G M hin 6 (by decide) (by decide +kernel) dX3_wants_1 ?_
  refine lv_bipush (v := 40) hx hb dX3_wants_4 (by decide) ?_
  refine lv_iload_n hx hb dX3_wants_6 rfl (lv_at hl 1 rfl) ?_
  refine lv_imul hx hb dX3_wants_7 ?_
  refine x_top (show 40 * (nI a) = nI (40 * a) from pk_mul 40 a) ?_
  refine lv_iload_n hx hb dX3_wants_8 rfl (lv_at hl 3 rfl) ?_
  refine lv_iadd hx hb dX3_wants_9 ?_
  refine x_top (show (nI (40 * a)) + (nI k) = nI ((40 * a) + k) from nI_add (40 * a) k) ?_
  refine m_ald B G M 6 (by decide) ((40 * a) + k) (show ((40 * a) + k) < 320 by omega) rfl dX3_wants_10 ?_
  refine lv_istore (lv' := [(5, .int (V 6 ((40 * a) + k))), (0, .ref (ad 17)), (1, .int (nI a)), (2, .int (nI b)), (3, .int (nI k)), (4, .int 0)]) hx hb dX3_wants_11 hl (by decide) rfl (fun ls hl => ?_)
  refine lv_iload hx hb dX3_wants_13 (lv_at hl 5 rfl) ?_
  refine lv_if_eq (tgt := 39) hx hb dX3_wants_15 (by decide) (fun c_15 => ?_) (fun c_15 => ?_)
  · skip
    refine lv_iload hx hb dX3_wants_39 (lv_at hl 0 rfl) ?_
    refine lv_iconst (v := 1) hx hb dX3_wants_41 (by decide) ?_
    refine lv_icmp_le (tgt := 83) hx hb dX3_wants_42 (by decide) (fun c_42 => ?_) (fun c_42 => ?_)
    · skip
      refine lv_iconst (v := 0) hx hb dX3_wants_83 (by decide) ?_
      exact x_zret B G (Or.inl rfl) ((b2i_f (by unfold mWS; simp only [Bool.and_eq_true, decide_eq_true_eq]; intro h9; obtain ⟨h1, h2, h3, h4⟩ := h9; first | contradiction | (simp only [i_lt, i_le, i_eq] at *; omega))).symm) (rfl) dX3_wants_84
    · skip
      refine lv_aload_n hx hb dX3_wants_45 rfl (lv_at hl 1 rfl) ?_
      refine m_getA B G M hin 0 (by decide) (by decide +kernel) dX3_wants_46 ?_
      refine lv_iload_n hx hb dX3_wants_49 rfl (lv_at hl 4 rfl) ?_
      refine m_ald B G M 0 (by decide) k (show k < 40 by omega) rfl dX3_wants_50 ?_
      refine lv_iload_n hx hb dX3_wants_51 rfl (lv_at hl 3 rfl) ?_
      refine lv_icmp_eq (tgt := 83) hx hb dX3_wants_52 (by decide) (fun c_52 => ?_) (fun c_52 => ?_)
      · skip
        refine lv_iconst (v := 0) hx hb dX3_wants_83 (by decide) ?_
        exact x_zret B G (Or.inl rfl) ((b2i_f (by unfold mWS; simp only [Bool.and_eq_true, decide_eq_true_eq]; intro h9; obtain ⟨h1, h2, h3, h4⟩ := h9; first | contradiction | (simp only [i_lt, i_le, i_eq] at *; omega))).symm) (rfl) dX3_wants_84
      · skip
        refine lv_aload_n hx hb dX3_wants_55 rfl (lv_at hl 1 rfl) ?_
        refine m_getA B G M hin 0 (by decide) (by decide +kernel) dX3_wants_56 ?_
        refine lv_iload_n hx hb dX3_wants_59 rfl (lv_at hl 4 rfl) ?_
        refine m_ald B G M 0 (by decide) k (show k < 40 by omega) rfl dX3_wants_60 ?_
        refine lv_iload_n hx hb dX3_wants_61 rfl (lv_at hl 2 rfl) ?_
        refine lv_icmp_eq (tgt := 83) hx hb dX3_wants_62 (by decide) (fun c_62 => ?_) (fun c_62 => ?_)
        · skip
          refine lv_iconst (v := 0) hx hb dX3_wants_83 (by decide) ?_
          exact x_zret B G (Or.inl rfl) ((b2i_f (by unfold mWS; simp only [Bool.and_eq_true, decide_eq_true_eq]; intro h9; obtain ⟨h1, h2, h3, h4⟩ := h9; first | contradiction | (simp only [i_lt, i_le, i_eq] at *; omega))).symm) (rfl) dX3_wants_84
        · skip
          refine lv_aload_n hx hb dX3_wants_65 rfl (lv_at hl 1 rfl) ?_
          refine m_getA B G M hin 6 (by decide) (by decide +kernel) dX3_wants_66 ?_
          refine lv_bipush (v := 40) hx hb dX3_wants_69 (by decide) ?_
          refine lv_iload_n hx hb dX3_wants_71 rfl (lv_at hl 3 rfl) ?_
          refine lv_imul hx hb dX3_wants_72 ?_
          refine x_top (show 40 * (nI b) = nI (40 * b) from pk_mul 40 b) ?_
          refine lv_iload_n hx hb dX3_wants_73 rfl (lv_at hl 4 rfl) ?_
          refine lv_iadd hx hb dX3_wants_74 ?_
          refine x_top (show (nI (40 * b)) + (nI k) = nI ((40 * b) + k) from nI_add (40 * b) k) ?_
          refine m_ald B G M 6 (by decide) ((40 * b) + k) (show ((40 * b) + k) < 320 by omega) rfl dX3_wants_75 ?_
          refine lv_if_ne (tgt := 83) hx hb dX3_wants_76 (by decide) (fun c_76 => ?_) (fun c_76 => ?_)
          · skip
            refine lv_iconst (v := 0) hx hb dX3_wants_83 (by decide) ?_
            exact x_zret B G (Or.inl rfl) ((b2i_f (by unfold mWS; simp only [Bool.and_eq_true, decide_eq_true_eq]; intro h9; obtain ⟨h1, h2, h3, h4⟩ := h9; first | contradiction | (simp only [i_lt, i_le, i_eq] at *; omega))).symm) (rfl) dX3_wants_84
          · skip
            refine lv_iconst (v := 1) hx hb dX3_wants_79 (by decide) ?_
            refine lv_goto (tgt := 84) hx hb dX3_wants_80 (by decide) ?_
            exact x_zret B G (Or.inr rfl) ((b2i_t (by unfold mWS; simp only [Bool.and_eq_true, decide_eq_true_eq, i_lt, i_le, i_eq] at *; refine ⟨by first | assumption | omega, by first | assumption | omega, by first | assumption | omega, by first | assumption | omega⟩)).symm) (rfl) dX3_wants_84
  · exact False.elim (c_15 rfl)
