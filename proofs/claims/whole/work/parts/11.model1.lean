set_option maxHeartbeats 4000000 in
set_option maxRecDepth 100000 in
theorem c_X3_thrown (l : Launch) {D : va_G} {sh : xS} {ad : Nat → Nat} {cI : ClassId} {tys : List (ClassId × FieldType)} (M : xMm sh ad cI tys) (V : xV) : xMi l yX3_thrown wsX3_thrown (rmK 0) D sh ad tys V [.ref (ad 17)] (V 17 20) V := by
  refine xOfi (cc := cX3_thrown) (nL := 1) (ret := some .int) (own := RX3) (by decide) rfl rfl (Nat.le_of_ble_eq_true rfl) M.2.2 ?_
  intro p e s m args below meth c A ls B G hl
  have hx := B.1.1
  have hb := B.1.2.1
  have hin : ∀ w ∈ wsX30, w ∈ wsX3_thrown := by decide +kernel
  have hl : lv_has ls 1 [(0, .ref (ad 17))] := hl
  refine lv_aload_n hx hb dX3_thrown_0 rfl (lv_at hl 0 rfl) ?_
  refine m_getI B G M hin 20 (by decide) (by decide +kernel) dX3_thrown_1 ?_
  exact x_iret B G (rfl) (rfl) dX3_thrown_4
set_option maxHeartbeats 4000000 in
set_option maxRecDepth 100000 in
theorem c_X3_holds (l : Launch) {D : va_G} {sh : xS} {ad : Nat → Nat} {cI : ClassId} {tys : List (ClassId × FieldType)} (M : xMm sh ad cI tys) (V : xV) (x : Int32) : xMi l yX3_holds wsX3_holds (rmK 0) D sh ad tys V [.ref (ad 17), .int x] (b2i (0 < x)) (xu V 17 20 x) := by
  refine xOfi (cc := cX3_holds) (nL := 2) (ret := some .boolean) (own := RX3) (by decide) rfl rfl (Nat.le_of_ble_eq_true rfl) M.2.2 ?_
  intro p e s m args below meth c A ls B G hl
  have hx := B.1.1
  have hb := B.1.2.1
  have hin : ∀ w ∈ wsX30, w ∈ wsX3_holds := by decide +kernel
  have hl : lv_has ls 2 [(0, .ref (ad 17)), (1, .int x)] := hl
  refine lv_aload_n hx hb dX3_holds_0 rfl (lv_at hl 0 rfl) ?_
  refine lv_iload_n hx hb dX3_holds_1 rfl (lv_at hl 1 rfl) ?_
  refine m_putI B G M hin 20 (by decide) (by decide +kernel) dX3_holds_2 (fun H locs G => ?_)
  refine lv_iload_n hx hb dX3_holds_5 rfl (lv_at hl 1 rfl) ?_
  refine lv_if_le (tgt := 13) hx hb dX3_holds_6 (by decide) (fun c_6 => ?_) (fun c_6 => ?_)
  · skip
    refine lv_iconst (v := 0) hx hb dX3_holds_13 (by decide) ?_
    exact x_zret B G (Or.inl rfl) ((b2i_f (by simp only [i_lt, i_le] at *; omega)).symm) (rfl) dX3_holds_14
  · skip
    refine lv_iconst (v := 1) hx hb dX3_holds_9 (by decide) ?_
    refine lv_goto (tgt := 14) hx hb dX3_holds_10 (by decide) ?_
    exact x_zret B G (Or.inr rfl) ((b2i_t (by simp only [i_lt, i_le] at *; omega)).symm) (rfl) dX3_holds_14
set_option maxHeartbeats 4000000 in
set_option maxRecDepth 100000 in
theorem c_X3_plain (l : Launch) {D : va_G} {sh : xS} {ad : Nat → Nat} {cI : ClassId} {tys : List (ClassId × FieldType)} (M : xMm sh ad cI tys) (V : xV) (x : Int32) : xMi l yX3_plain wsX3_plain (rmK 0) D sh ad tys V [.ref (ad 17), .int x] x (xu V 17 20 0) := by
  refine xOfi (cc := cX3_plain) (nL := 2) (ret := some .int) (own := RX3) (by decide) rfl rfl (Nat.le_of_ble_eq_true rfl) M.2.2 ?_
  intro p e s m args below meth c A ls B G hl
  have hx := B.1.1
  have hb := B.1.2.1
  have hin : ∀ w ∈ wsX30, w ∈ wsX3_plain := by decide +kernel
  have hl : lv_has ls 2 [(0, .ref (ad 17)), (1, .int x)] := hl
  refine lv_aload_n hx hb dX3_plain_0 rfl (lv_at hl 0 rfl) ?_
  refine lv_iconst (v := 0) hx hb dX3_plain_1 (by decide) ?_
  refine m_putI B G M hin 20 (by decide) (by decide +kernel) dX3_plain_2 (fun H locs G => ?_)
  refine lv_iload_n hx hb dX3_plain_5 rfl (lv_at hl 1 rfl) ?_
  exact x_iret B G (rfl) (rfl) dX3_plain_6
set_option maxHeartbeats 4000000 in
set_option maxRecDepth 100000 in
theorem c_X3_between (l : Launch) {D : va_G} {sh : xS} {ad : Nat → Nat} {cI : ClassId} {tys : List (ClassId × FieldType)} (M : xMm sh ad cI tys) (V : xV) (x a b : Int32) : xMi l yX3_between wsX3_between (rmK 0) D sh ad tys V [.ref (ad 17), .int x, .int a, .int b] (b2i (a ≤ x ∧ x ≤ b)) V := by
  refine xOfi (cc := cX3_between) (nL := 4) (ret := some .boolean) (own := RX3) (by decide) rfl rfl (Nat.le_of_ble_eq_true rfl) M.2.2 ?_
  intro p e s m args below meth c A ls B G hl
  have hx := B.1.1
  have hb := B.1.2.1
  have hl : lv_has ls 4 [(0, .ref (ad 17)), (1, .int x), (2, .int a), (3, .int b)] := hl
  refine lv_iload_n hx hb dX3_between_0 rfl (lv_at hl 1 rfl) ?_
  refine lv_iload_n hx hb dX3_between_1 rfl (lv_at hl 2 rfl) ?_
  refine lv_icmp_lt (tgt := 14) hx hb dX3_between_2 (by decide) (fun c_2 => ?_) (fun c_2 => ?_)
  · skip
    refine lv_iconst (v := 0) hx hb dX3_between_14 (by decide) ?_
    exact x_zret B G (Or.inl rfl) ((b2i_f (by simp only [i_lt, i_le] at *; omega)).symm) (rfl) dX3_between_15
  · skip
    refine lv_iload_n hx hb dX3_between_5 rfl (lv_at hl 1 rfl) ?_
    refine lv_iload_n hx hb dX3_between_6 rfl (lv_at hl 3 rfl) ?_
    refine lv_icmp_gt (tgt := 14) hx hb dX3_between_7 (by decide) (fun c_7 => ?_) (fun c_7 => ?_)
    · skip
      refine lv_iconst (v := 0) hx hb dX3_between_14 (by decide) ?_
      exact x_zret B G (Or.inl rfl) ((b2i_f (by simp only [i_lt, i_le] at *; omega)).symm) (rfl) dX3_between_15
    · skip
      refine lv_iconst (v := 1) hx hb dX3_between_10 (by decide) ?_
      refine lv_goto (tgt := 15) hx hb dX3_between_11 (by decide) ?_
      exact x_zret B G (Or.inr rfl) ((b2i_t (by simp only [i_lt, i_le] at *; omega)).symm) (rfl) dX3_between_15
set_option maxHeartbeats 4000000 in
set_option maxRecDepth 100000 in
theorem c_X3_isNode (l : Launch) {D : va_G} {sh : xS} {ad : Nat → Nat} {cI : ClassId} {tys : List (ClassId × FieldType)} (M : xMm sh ad cI tys) (V : xV) (x : Int32) : xMi l yX3_isNode wsX3_isNode (rmK 1) D sh ad tys V [.ref (ad 17), .int x] (b2i (0 ≤ x ∧ x ≤ 7)) V := by
  refine xOfi (cc := cX3_isNode) (nL := 2) (ret := some .boolean) (own := RX3) (by decide) rfl rfl (Nat.le_of_ble_eq_true rfl) M.2.2 ?_
  intro p e s m args below meth c A ls B G hl
  have hx := B.1.1
  have hb := B.1.2.1
  have hl : lv_has ls 2 [(0, .ref (ad 17)), (1, .int x)] := hl
  refine lv_aload_n hx hb dX3_isNode_0 rfl (lv_at hl 0 rfl) ?_
  refine lv_iload_n hx hb dX3_isNode_1 rfl (lv_at hl 1 rfl) ?_
  refine lv_iconst (v := 0) hx hb dX3_isNode_2 (by decide) ?_
  refine lv_bipush (v := 7) hx hb dX3_isNode_3 (by decide) ?_
  refine x_callVi (rest := []) B G (c_X3_between l M V x 0 7) (cwV 3 B.1.2.2.2.2 gX3_isNode_X3_between rfl rfl rfl (by decide +kernel) ⟨Nat.le_of_ble_eq_true rfl, Nat.le_of_ble_eq_true rfl⟩) (m_recv B G M) rfl hl.1 rfl (Nat.le_of_ble_eq_true rfl) ⟨Nat.zero_le _, Nat.zero_le _⟩ dX3_isNode_5 (fun H locs G => ?_)
  exact x_zret B G (b2i_01 _) (rfl) (rfl) dX3_isNode_8
set_option maxHeartbeats 4000000 in
set_option maxRecDepth 100000 in
theorem c_X3_isBundle (l : Launch) {D : va_G} {sh : xS} {ad : Nat → Nat} {cI : ClassId} {tys : List (ClassId × FieldType)} (M : xMm sh ad cI tys) (V : xV) (x : Int32) : xMi l yX3_isBundle wsX3_isBundle (rmK 1) D sh ad tys V [.ref (ad 17), .int x] (b2i (0 ≤ x ∧ x ≤ V 17 17 - 1)) V := by
  refine xOfi (cc := cX3_isBundle) (nL := 2) (ret := some .boolean) (own := RX3) (by decide) rfl rfl (Nat.le_of_ble_eq_true rfl) M.2.2 ?_
  intro p e s m args below meth c A ls B G hl
  have hx := B.1.1
  have hb := B.1.2.1
  have hin : ∀ w ∈ wsX30, w ∈ wsX3_isBundle := by decide +kernel
  have hl : lv_has ls 2 [(0, .ref (ad 17)), (1, .int x)] := hl
  refine lv_aload_n hx hb dX3_isBundle_0 rfl (lv_at hl 0 rfl) ?_
  refine lv_iload_n hx hb dX3_isBundle_1 rfl (lv_at hl 1 rfl) ?_
  refine lv_iconst (v := 0) hx hb dX3_isBundle_2 (by decide) ?_
  refine lv_aload_n hx hb dX3_isBundle_3 rfl (lv_at hl 0 rfl) ?_
  refine m_getI B G M hin 17 (by decide) (by decide +kernel) dX3_isBundle_4 ?_
  refine lv_iconst (v := 1) hx hb dX3_isBundle_7 (by decide) ?_
  refine lv_isub hx hb dX3_isBundle_8 ?_
  refine x_callVi (rest := []) B G (c_X3_between l M V x 0 ((V 17 17) - 1)) (cwV 3 B.1.2.2.2.2 gX3_isBundle_X3_between rfl rfl rfl (by decide +kernel) ⟨Nat.le_of_ble_eq_true rfl, Nat.le_of_ble_eq_true rfl⟩) (m_recv B G M) rfl hl.1 rfl (Nat.le_of_ble_eq_true rfl) ⟨Nat.zero_le _, Nat.zero_le _⟩ dX3_isBundle_9 (fun H locs G => ?_)
  exact x_zret B G (b2i_01 _) (rfl) (rfl) dX3_isBundle_12
/-- the order of bundles, by the reference's rows -/
def mPre (V : xV) (i j : Nat) : Bool := if V 1 i = V 1 j then (if V 2 i = V 2 j then decide (i < j) else decide (V 2 i < V 2 j)) else decide (V 1 j < V 1 i)
set_option maxHeartbeats 4000000 in
set_option maxRecDepth 100000 in
theorem c_X3_precedes (l : Launch) {D : va_G} {sh : xS} {ad : Nat → Nat} {cI : ClassId} {tys : List (ClassId × FieldType)} (M : xMm sh ad cI tys) (V : xV) (i j : Nat) (hi : i < 40) (hj : j < 40) : xMi l yX3_precedes wsX3_precedes (rmK 0) D sh ad tys V [.ref (ad 17), .int (nI i), .int (nI j)] (b2i (mPre V i j = true)) V := by
  refine xOfi (cc := cX3_precedes) (nL := 3) (ret := some .boolean) (own := RX3) (by decide) rfl rfl (Nat.le_of_ble_eq_true rfl) M.2.2 ?_
  intro p e s m args below meth c A ls B G hl
  have hx := B.1.1
  have hb := B.1.2.1
  have hin : ∀ w ∈ wsX30, w ∈ wsX3_precedes := by decide +kernel
  have hl : lv_has ls 3 [(0, .ref (ad 17)), (1, .int (nI i)), (2, .int (nI j))] := hl
  refine lv_aload_n hx hb dX3_precedes_0 rfl (lv_at hl 0 rfl) ?_
  refine m_getA B G M hin 1 (by decide) (by decide +kernel) dX3_precedes_1 ?_
  refine lv_iload_n hx hb dX3_precedes_4 rfl (lv_at hl 1 rfl) ?_
  refine m_ald B G M 1 (by decide) i (show i < 40 by omega) rfl dX3_precedes_5 ?_
  refine lv_aload_n hx hb dX3_precedes_6 rfl (lv_at hl 0 rfl) ?_
  refine m_getA B G M hin 1 (by decide) (by decide +kernel) dX3_precedes_7 ?_
  refine lv_iload_n hx hb dX3_precedes_10 rfl (lv_at hl 2 rfl) ?_
  refine m_ald B G M 1 (by decide) j (show j < 40 by omega) rfl dX3_precedes_11 ?_
  refine lv_icmp_eq (tgt := 36) hx hb dX3_precedes_12 (by decide) (fun c_12 => ?_) (fun c_12 => ?_)
  · skip
    refine lv_aload_n hx hb dX3_precedes_36 rfl (lv_at hl 0 rfl) ?_
    refine m_getA B G M hin 2 (by decide) (by decide +kernel) dX3_precedes_37 ?_
    refine lv_iload_n hx hb dX3_precedes_40 rfl (lv_at hl 1 rfl) ?_
    refine m_ald B G M 2 (by decide) i (show i < 40 by omega) rfl dX3_precedes_41 ?_
    refine lv_aload_n hx hb dX3_precedes_42 rfl (lv_at hl 0 rfl) ?_
    refine m_getA B G M hin 2 (by decide) (by decide +kernel) dX3_precedes_43 ?_
    refine lv_iload_n hx hb dX3_precedes_46 rfl (lv_at hl 2 rfl) ?_
    refine m_ald B G M 2 (by decide) j (show j < 40 by omega) rfl dX3_precedes_47 ?_
    refine lv_icmp_ne (tgt := 64) hx hb dX3_precedes_48 (by decide) (fun c_48 => ?_) (fun c_48 => ?_)
    · skip
      refine lv_aload_n hx hb dX3_precedes_64 rfl (lv_at hl 0 rfl) ?_
      refine m_getA B G M hin 2 (by decide) (by decide +kernel) dX3_precedes_65 ?_
      refine lv_iload_n hx hb dX3_precedes_68 rfl (lv_at hl 1 rfl) ?_
      refine m_ald B G M 2 (by decide) i (show i < 40 by omega) rfl dX3_precedes_69 ?_
      refine lv_aload_n hx hb dX3_precedes_70 rfl (lv_at hl 0 rfl) ?_
      refine m_getA B G M hin 2 (by decide) (by decide +kernel) dX3_precedes_71 ?_
      refine lv_iload_n hx hb dX3_precedes_74 rfl (lv_at hl 2 rfl) ?_
      refine m_ald B G M 2 (by decide) j (show j < 40 by omega) rfl dX3_precedes_75 ?_
      refine lv_icmp_ge (tgt := 83) hx hb dX3_precedes_76 (by decide) (fun c_76 => ?_) (fun c_76 => ?_)
      · skip
        refine lv_iconst (v := 0) hx hb dX3_precedes_83 (by decide) ?_
        exact x_zret B G (Or.inl rfl) (by unfold mPre b2i; simp [*]) (rfl) dX3_precedes_84
      · skip
        refine lv_iconst (v := 1) hx hb dX3_precedes_79 (by decide) ?_
        refine lv_goto (tgt := 84) hx hb dX3_precedes_80 (by decide) ?_
        exact x_zret B G (Or.inr rfl) (by unfold mPre b2i; simp [*]) (rfl) dX3_precedes_84
    · skip
      refine lv_iload_n hx hb dX3_precedes_51 rfl (lv_at hl 1 rfl) ?_
      refine lv_iload_n hx hb dX3_precedes_52 rfl (lv_at hl 2 rfl) ?_
      refine lv_icmp_ge (tgt := 60) hx hb dX3_precedes_53 (by decide) (fun c_53 => ?_) (fun c_53 => ?_)
      · skip
        have c_53 : j ≤ i := (nI_leI (a := j) (b := i) (by omega) (by omega)).mp c_53
        refine lv_iconst (v := 0) hx hb dX3_precedes_60 (by decide) ?_
        refine lv_goto (tgt := 84) hx hb dX3_precedes_61 (by decide) ?_
        exact x_zret B G (Or.inl rfl) (by unfold mPre b2i; simp [*]) (rfl) dX3_precedes_84
      · skip
        have c_53 : ¬ (j ≤ i) := fun h9 => c_53 ((nI_leI (a := j) (b := i) (by omega) (by omega)).mpr h9)
        refine lv_iconst (v := 1) hx hb dX3_precedes_56 (by decide) ?_
        refine lv_goto (tgt := 84) hx hb dX3_precedes_57 (by decide) ?_
        exact x_zret B G (Or.inr rfl) (by unfold mPre b2i; simp [*]) (rfl) dX3_precedes_84
  · skip
    refine lv_aload_n hx hb dX3_precedes_15 rfl (lv_at hl 0 rfl) ?_
    refine m_getA B G M hin 1 (by decide) (by decide +kernel) dX3_precedes_16 ?_
    refine lv_iload_n hx hb dX3_precedes_19 rfl (lv_at hl 1 rfl) ?_
    refine m_ald B G M 1 (by decide) i (show i < 40 by omega) rfl dX3_precedes_20 ?_
    refine lv_aload_n hx hb dX3_precedes_21 rfl (lv_at hl 0 rfl) ?_
    refine m_getA B G M hin 1 (by decide) (by decide +kernel) dX3_precedes_22 ?_
    refine lv_iload_n hx hb dX3_precedes_25 rfl (lv_at hl 2 rfl) ?_
    refine m_ald B G M 1 (by decide) j (show j < 40 by omega) rfl dX3_precedes_26 ?_
    refine lv_icmp_le (tgt := 34) hx hb dX3_precedes_27 (by decide) (fun c_27 => ?_) (fun c_27 => ?_)
    · skip
      refine lv_iconst (v := 0) hx hb dX3_precedes_34 (by decide) ?_
      exact x_zret B G (Or.inl rfl) (by unfold mPre b2i; simp [*]) (rfl) dX3_precedes_35
    · skip
      refine lv_iconst (v := 1) hx hb dX3_precedes_30 (by decide) ?_
      refine lv_goto (tgt := 35) hx hb dX3_precedes_31 (by decide) ?_
      exact x_zret B G (Or.inr rfl) (by unfold mPre b2i; simp [*]) (rfl) dX3_precedes_35
def mHas (V : xV) (n : Nat) (k : Nat) : Bool := decide (0 < V 6 (40 * n + k))
theorem cntP_t {P : Nat → Bool} {n : Nat} (h : P n = true) : cntP P (n + 1) = cntP P n + 1 := by
  show cntP P n + _ = _
  rw [if_pos h]
theorem cntP_f {P : Nat → Bool} {n : Nat} (h : ¬ P n = true) : cntP P (n + 1) = cntP P n := by
  show cntP P n + _ = _
  rw [if_neg h]; rfl
theorem i_nle {a b : Int32} : ¬ a ≤ b ↔ b < a := by rw [i_le, i_lt]; omega
theorem i_nlt {a b : Int32} : ¬ a < b ↔ b ≤ a := by rw [i_le, i_lt]; omega
set_option maxHeartbeats 4000000 in
set_option maxRecDepth 100000 in
theorem c_X3_load (l : Launch) {D : va_G} {sh : xS} {ad : Nat → Nat} {cI : ClassId} {tys : List (ClassId × FieldType)} (M : xMm sh ad cI tys) (V : xV) (n cnt : Nat) (hn : n < 8) (hcnt : V 17 17 = nI cnt) (hc40 : cnt ≤ 40) : xMi l yX3_load wsX3_load (rmK 0) D sh ad tys V [.ref (ad 17), .int (nI n)] (nI (cntP (mHas V n) cnt)) V := by
  refine xOfi (cc := cX3_load) (nL := 4) (ret := some .int) (own := RX3) (by decide) rfl rfl (Nat.le_of_ble_eq_true rfl) M.2.2 ?_
  intro p e s m args below meth c A ls B G hl
  have hx := B.1.1
  have hb := B.1.2.1
  have hin : ∀ w ∈ wsX30, w ∈ wsX3_load := by decide +kernel
  have hl : lv_has ls 4 [(0, .ref (ad 17)), (1, .int (nI n))] := hl
  refine lv_iconst (v := 0) hx hb dX3_load_0 (by decide) ?_
  refine lv_istore_n (lv' := [(2, .int 0), (0, .ref (ad 17)), (1, .int (nI n))]) hx hb dX3_load_1 rfl hl (by decide) rfl (fun ls hl => ?_)
  refine lv_iconst (v := 0) hx hb dX3_load_2 (by decide) ?_
  refine lv_istore_n (lv' := [(3, .int 0), (2, .int 0), (0, .ref (ad 17)), (1, .int (nI n))]) hx hb dX3_load_3 rfl hl (by decide) rfl (fun ls hl => ?_)
  have loop_4 : ∀ (f i : Nat), i ≤ cnt → cnt < i + f → ∀ (H : Heap) (locs : List Loc) (ls : Array Slot), xG D sh ad A s.heap V H locs → lv_has ls 4 [(0, .ref (ad 17)), (1, .int (nI n)), (2, .int (nI (cntP (mHas V n) i))), (3, .int (nI i))] → W p l e (rmK 0) s m args below meth c H locs 0 0 (xQi below D sh ad tys A args s (nI (cntP (mHas V n) cnt)) V) (F0 m 4 ls []) := by
    intro f
    induction f with
    | zero => intro i h1 h2; exact absurd h2 (by omega)
    | succ f ih =>
      intro i hi hf H locs ls G hl
      refine lv_iload_n hx hb dX3_load_4 rfl (lv_at hl 3 rfl) ?_
      refine lv_aload_n hx hb dX3_load_5 rfl (lv_at hl 0 rfl) ?_
      refine m_getI B G M hin 17 (by decide) (by decide +kernel) dX3_load_6 ?_
      refine x_top (show _ = nI cnt from hcnt) ?_
      refine lv_icmp_ge (tgt := 40) hx hb dX3_load_9 (by decide) (fun c_9 => ?_) (fun c_9 => ?_)
      · skip
        have c_9 : cnt ≤ i := (nI_leI (a := cnt) (b := i) (by omega) (by omega)).mp c_9
        refine lv_iload_n hx hb dX3_load_40 rfl (lv_at hl 2 rfl) ?_
        exact x_iret B G (by rw [show i = cnt by omega]) (rfl) dX3_load_41
      · skip
        have c_9 : ¬ (cnt ≤ i) := fun h9 => c_9 ((nI_leI (a := cnt) (b := i) (by omega) (by omega)).mpr h9)
        refine lv_iload_n hx hb dX3_load_12 rfl (lv_at hl 2 rfl) ?_
        refine lv_aload_n hx hb dX3_load_13 rfl (lv_at hl 0 rfl) ?_
        refine m_getA B G M hin 6 (by decide) (by decide +kernel) dX3_load_14 ?_
        refine lv_bipush (v := 40) hx hb dX3_load_17 (by decide) ?_
        refine lv_iload_n hx hb dX3_load_19 rfl (lv_at hl 1 rfl) ?_
        refine lv_imul hx hb dX3_load_20 ?_
        refine x_top (show 40 * (nI n) = nI (40 * n) from pk_mul 40 n) ?_
        refine lv_iload_n hx hb dX3_load_21 rfl (lv_at hl 3 rfl) ?_
        refine lv_iadd hx hb dX3_load_22 ?_
        refine x_top (show (nI (40 * n)) + (nI i) = nI ((40 * n) + i) from nI_add (40 * n) i) ?_
        refine m_ald B G M 6 (by decide) ((40 * n) + i) (show ((40 * n) + i) < 320 by omega) rfl dX3_load_23 ?_
        refine lv_if_le (tgt := 31) hx hb dX3_load_24 (by decide) (fun c_24 => ?_) (fun c_24 => ?_)
        · skip
          refine lv_iconst (v := 0) hx hb dX3_load_31 (by decide) ?_
          refine lv_iadd hx hb dX3_load_32 ?_
          refine x_top (show (nI (cntP (mHas V n) i)) + 0 = nI ((cntP (mHas V n) i) + 0) from nI_add (cntP (mHas V n) i) 0) ?_
          refine lv_istore_n (lv' := [(2, .int (nI ((cntP (mHas V n) i) + 0))), (0, .ref (ad 17)), (1, .int (nI n)), (3, .int (nI i))]) hx hb dX3_load_33 rfl hl (by decide) rfl (fun ls hl => ?_)
          refine lv_iinc (v := nI (i + 1)) (lv' := [(3, .int (nI (i + 1))), (2, .int (nI ((cntP (mHas V n) i) + 0))), (0, .ref (ad 17)), (1, .int (nI n))]) hx hb dX3_load_34 hl (k := 3) rfl (nI_add i 1) (by decide) rfl (fun ls hl => ?_)
          refine lv_goto (tgt := 4) hx hb dX3_load_37 (by decide) ?_
          have hl := lv_sub (l' := [(0, .ref (ad 17)), (1, .int (nI n)), (2, .int (nI ((cntP (mHas V n) i) + 0))), (3, .int (nI (i + 1)))]) hl [2, 3, 1, 0] rfl
          have hl := lv_cast hl (congrArg (fun z : Int32 => ([(0, .ref (ad 17)), (1, .int (nI n)), (2, .int z), (3, .int (nI (i + 1)))] : List (Nat × Value))) (show nI ((cntP (mHas V n) i) + 0) = nI (cntP (mHas V n) (i + 1)) from congrArg nI (cntP_f (show ¬ mHas V n i = true by unfold mHas; rw [decide_eq_true_eq]; exact i_nlt.mpr c_24)).symm))
          exact ih (i + 1) (by omega) (by omega) _ _ _ G hl
        · skip
          refine lv_iconst (v := 1) hx hb dX3_load_27 (by decide) ?_
          refine lv_goto (tgt := 32) hx hb dX3_load_28 (by decide) ?_
          refine lv_iadd hx hb dX3_load_32 ?_
          refine x_top (show (nI (cntP (mHas V n) i)) + 1 = nI ((cntP (mHas V n) i) + 1) from nI_add (cntP (mHas V n) i) 1) ?_
          refine lv_istore_n (lv' := [(2, .int (nI ((cntP (mHas V n) i) + 1))), (0, .ref (ad 17)), (1, .int (nI n)), (3, .int (nI i))]) hx hb dX3_load_33 rfl hl (by decide) rfl (fun ls hl => ?_)
          refine lv_iinc (v := nI (i + 1)) (lv' := [(3, .int (nI (i + 1))), (2, .int (nI ((cntP (mHas V n) i) + 1))), (0, .ref (ad 17)), (1, .int (nI n))]) hx hb dX3_load_34 hl (k := 3) rfl (nI_add i 1) (by decide) rfl (fun ls hl => ?_)
          refine lv_goto (tgt := 4) hx hb dX3_load_37 (by decide) ?_
          have hl := lv_sub (l' := [(0, .ref (ad 17)), (1, .int (nI n)), (2, .int (nI ((cntP (mHas V n) i) + 1))), (3, .int (nI (i + 1)))]) hl [2, 3, 1, 0] rfl
          have hl := lv_cast hl (congrArg (fun z : Int32 => ([(0, .ref (ad 17)), (1, .int (nI n)), (2, .int z), (3, .int (nI (i + 1)))] : List (Nat × Value))) (show nI ((cntP (mHas V n) i) + 1) = nI (cntP (mHas V n) (i + 1)) from congrArg nI (cntP_t (show mHas V n i = true from decide_eq_true (i_nle.mp c_24))).symm))
          exact ih (i + 1) (by omega) (by omega) _ _ _ G hl
  have hl := lv_sub (l' := [(0, .ref (ad 17)), (1, .int (nI n)), (2, .int 0), (3, .int 0)]) hl [2, 3, 1, 0] rfl
  have hl := lv_cast hl (congrArg (fun z : Int32 => ([(0, .ref (ad 17)), (1, .int (nI n)), (2, .int z), (3, .int 0)] : List (Nat × Value))) (show 0 = nI (cntP (mHas V n) 0) from rfl))
  have hl := lv_cast hl (congrArg (fun z : Int32 => ([(0, .ref (ad 17)), (1, .int (nI n)), (2, .int (nI (cntP (mHas V n) 0))), (3, .int z)] : List (Nat × Value))) (show 0 = nI 0 from rfl))
  exact loop_4 (cnt + 1) 0 (by omega) (by omega) _ _ _ G hl
