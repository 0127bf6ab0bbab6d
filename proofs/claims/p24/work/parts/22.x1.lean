def NEV : Int32 := 2147483647
def pSec (V : xV) (k u : Nat) : Int32 := if V 13 u < V 11 k then V 11 k else V 13 u
def pCarB (V : xV) (k u v : Nat) : Bool := decide (V 13 u ≤ V 12 k) && decide (pSec V k u < V 13 v)
def pCarV (V : xV) (k u v : Nat) : xV := if pCarB V k u v = true then xu V 13 v (pSec V k u) else V
theorem pCarV_o (V : xV) (k u v : Nat) {i : Nat} (h : i ≠ 13) : pCarV V k u v i = V i := by
  unfold pCarV
  split
  · rw [xu_ne _ _ _ h]
  · rfl
theorem pCar_t {V : xV} {k u v : Nat} (h1 : V 13 u ≤ V 12 k) (h2 : pSec V k u < V 13 v) : pCarB V k u v = true := by unfold pCarB; rw [Bool.and_eq_true]; exact ⟨decide_eq_true h1, decide_eq_true h2⟩
theorem pCar_f1 {V : xV} {k u v : Nat} (h1 : ¬ V 13 u ≤ V 12 k) : ¬ pCarB V k u v = true := by unfold pCarB; rw [Bool.and_eq_true]; exact fun z => h1 (of_decide_eq_true z.1)
theorem pCar_f2 {V : xV} {k u v : Nat} (h1 : ¬ pSec V k u < V 13 v) : ¬ pCarB V k u v = true := by unfold pCarB; rw [Bool.and_eq_true]; exact fun z => h1 (of_decide_eq_true z.2)
set_option maxHeartbeats 4000000 in
set_option maxRecDepth 100000 in
theorem c_X1_carry (l : Launch) {D : va_G} {sh : xS} {ad : Nat → Nat} {cI cZ : ClassId} {tys : List (ClassId × FieldType)} (Cx : xCx sh ad cI cZ tys) (V : xV) (Pl : xPl sh ad cI cZ) (k u v : Nat) (hk : k < 30) (hu : u < 8) (hv : v < 8) : xMi l yX1_carry wsX1_carry (rmK 1) D sh ad tys V [.ref (ad 6), .int (nI k), .int (nI u), .int (nI v)] (b2i (pCarB V k u v = true)) (pCarV V k u v) := by
  refine xOfi (cc := cX1_carry) (nL := 5) (ret := some .boolean) (own := RX1) (by decide) rfl rfl (Nat.le_of_ble_eq_true rfl) Cx.2.2 ?_
  intro p e s m args below meth c A ls B G hl
  have hx := B.1.1
  have hb := B.1.2.1
  have hin1 : ∀ w ∈ wsX10, w ∈ wsX1_carry := by decide +kernel
  have hl : lv_has ls 5 [(0, .ref (ad 6)), (1, .int (nI k)), (2, .int (nI u)), (3, .int (nI v))] := hl
  refine lv_aload_n hx hb dX1_carry_0 rfl (lv_at hl 0 rfl) ?_
  refine p_getA B G Pl hin1 4 (by decide) (by decide +kernel) dX1_carry_1 ?_
  refine lv_iload_n hx hb dX1_carry_4 rfl (lv_at hl 2 rfl) ?_
  refine x_ald B G (13) Pl.2.2.2.2.2.1 0 Cx.1 u (show u < 8 from by omega) rfl (by decide) dX1_carry_5 ?_
  refine lv_aload_n hx hb dX1_carry_6 rfl (lv_at hl 0 rfl) ?_
  refine p_getA B G Pl hin1 3 (by decide) (by decide +kernel) dX1_carry_7 ?_
  refine lv_iload_n hx hb dX1_carry_10 rfl (lv_at hl 1 rfl) ?_
  refine x_ald B G (12) Pl.2.2.2.2.1 0 Cx.1 k (show k < 30 from by omega) rfl (by decide) dX1_carry_11 ?_
  refine lv_icmp_le (tgt := 17) hx hb dX1_carry_12 (by decide) (fun c_12 => ?_) (fun c_12 => ?_)
  · skip
    refine lv_aload_n hx hb dX1_carry_17 rfl (lv_at hl 0 rfl) ?_
    refine p_getA B G Pl hin1 4 (by decide) (by decide +kernel) dX1_carry_18 ?_
    refine lv_iload_n hx hb dX1_carry_21 rfl (lv_at hl 2 rfl) ?_
    refine x_ald B G (13) Pl.2.2.2.2.2.1 0 Cx.1 u (show u < 8 from by omega) rfl (by decide) dX1_carry_22 ?_
    refine lv_aload_n hx hb dX1_carry_23 rfl (lv_at hl 0 rfl) ?_
    refine p_getA B G Pl hin1 2 (by decide) (by decide +kernel) dX1_carry_24 ?_
    refine lv_iload_n hx hb dX1_carry_27 rfl (lv_at hl 1 rfl) ?_
    refine x_ald B G (11) Pl.2.2.2.1 0 Cx.1 k (show k < 30 from by omega) rfl (by decide) dX1_carry_28 ?_
    refine x_mmax B hl.1 (by decide +kernel) (by decide +kernel) (by decide +kernel) (by decide +kernel) dX1_carry_29 (Nat.le_of_ble_eq_true rfl) (Nat.le_of_ble_eq_true rfl) ⟨Nat.zero_le _, Nat.zero_le _⟩ ?_
    refine x_top (show _ = pSec V k u from rfl) ?_
    refine lv_istore (lv' := [(4, .int (pSec V k u)), (0, .ref (ad 6)), (1, .int (nI k)), (2, .int (nI u)), (3, .int (nI v))]) hx hb dX1_carry_32 hl (by decide) rfl (fun ls hl => ?_)
    refine lv_iload hx hb dX1_carry_34 (lv_at hl 0 rfl) ?_
    refine lv_aload_n hx hb dX1_carry_36 rfl (lv_at hl 1 rfl) ?_
    refine p_getA B G Pl hin1 4 (by decide) (by decide +kernel) dX1_carry_37 ?_
    refine lv_iload_n hx hb dX1_carry_40 rfl (lv_at hl 4 rfl) ?_
    refine x_ald B G (13) Pl.2.2.2.2.2.1 0 Cx.1 v (show v < 8 from by omega) rfl (by decide) dX1_carry_41 ?_
    refine lv_icmp_lt (tgt := 47) hx hb dX1_carry_42 (by decide) (fun c_42 => ?_) (fun c_42 => ?_)
    · skip
      refine lv_aload_n hx hb dX1_carry_47 rfl (lv_at hl 1 rfl) ?_
      refine p_getA B G Pl hin1 4 (by decide) (by decide +kernel) dX1_carry_48 ?_
      refine lv_iload_n hx hb dX1_carry_51 rfl (lv_at hl 4 rfl) ?_
      refine lv_iload hx hb dX1_carry_52 (lv_at hl 0 rfl) ?_
      refine x_ast B G (13) Pl.2.2.2.2.2.1 0 Cx.1 v (show v < 8 from by omega) rfl (by decide) dX1_carry_54 (fun H locs G => ?_)
      refine lv_iconst (v := 1) hx hb dX1_carry_55 (by decide) ?_
      exact x_zret B G (Or.inr rfl) ((b2i_t (pCar_t c_12 c_42)).symm) ((if_pos (pCar_t c_12 c_42)).symm) dX1_carry_56
    · skip
      refine lv_iconst (v := 0) hx hb dX1_carry_45 (by decide) ?_
      exact x_zret B G (Or.inl rfl) ((b2i_f (pCar_f2 c_42)).symm) ((if_neg (pCar_f2 c_42)).symm) dX1_carry_46
  · skip
    refine lv_iconst (v := 0) hx hb dX1_carry_15 (by decide) ?_
    exact x_zret B G (Or.inl rfl) ((b2i_f (pCar_f1 c_12)).symm) ((if_neg (pCar_f1 c_12)).symm) dX1_carry_16
def pSt (V : xV) (i : Nat) : xV := fun j => if j = 13 then (fun x => if x < i then NEV else V 13 x) else if j = 14 then (fun x => if x < i then 0 else V 14 x) else V j
theorem pSt_s (V : xV) (i : Nat) : xu (xu (pSt V i) 13 i NEV) 14 i 0 = pSt V (i + 1) := by
  funext j x
  unfold xu upd pSt
  by_cases h13 : j = 13
  · subst h13
    simp only [if_true, show ¬ (13 : Nat) = 14 by decide, if_false]
    by_cases hx : x = i
    · subst hx; simp
    · simp only [hx, if_false]
      by_cases hl : x < i
      · simp only [if_pos hl, if_pos (show x < i + 1 by omega)]
      · simp only [if_neg hl, if_neg (show ¬ x < i + 1 by omega)]
  · by_cases h14 : j = 14
    · subst h14
      simp only [if_true, show ¬ (14 : Nat) = 13 by decide, if_false]
      by_cases hx : x = i
      · subst hx; simp
      · simp only [hx, if_false]
        by_cases hl : x < i
        · simp only [if_pos hl, if_pos (show x < i + 1 by omega)]
        · simp only [if_neg hl, if_neg (show ¬ x < i + 1 by omega)]
    · simp only [h13, h14, if_false]
theorem pSt_0 (V : xV) : pSt V 0 = V := by
  funext j x
  unfold pSt
  by_cases h13 : j = 13
  · subst h13; simp
  · by_cases h14 : j = 14
    · subst h14; simp
    · simp [h13, h14]
theorem pSt_o (V : xV) (i : Nat) {j : Nat} (h13 : j ≠ 13) (h14 : j ≠ 14) : pSt V i j = V j := by unfold pSt; rw [if_neg h13, if_neg h14]
def pBeg (V : xV) (n : Nat) (t : Int32) : xV := xu (pSt V 8) 13 n t
theorem pBeg_o (V : xV) (n : Nat) (t : Int32) {j : Nat} (h13 : j ≠ 13) (h14 : j ≠ 14) : pBeg V n t j = V j := by unfold pBeg; rw [xu_ne _ _ _ h13, pSt_o _ _ h13 h14]
set_option maxHeartbeats 4000000 in
set_option maxRecDepth 100000 in
theorem c_X1_start (l : Launch) {D : va_G} {sh : xS} {ad : Nat → Nat} {cI cZ : ClassId} {tys : List (ClassId × FieldType)} (Cx : xCx sh ad cI cZ tys) (V : xV) (Pl : xPl sh ad cI cZ) (n : Nat) (t : Int32) (hn : n < 8) : xMv l yX1_start wsX1_start (rmK 0) D sh ad tys V [.ref (ad 6), .int (nI n), .int t] (pBeg V n t) := by
  refine xOfv (cc := cX1_start) (nL := 4) (ret := none) (own := RX1) (by decide) rfl rfl (Nat.le_of_ble_eq_true rfl) Cx.2.2 ?_
  intro p e s m args below meth c A ls B G hl
  have hx := B.1.1
  have hb := B.1.2.1
  have hin1 : ∀ w ∈ wsX10, w ∈ wsX1_start := by decide +kernel
  have hl : lv_has ls 4 [(0, .ref (ad 6)), (1, .int (nI n)), (2, .int t)] := hl
  refine lv_iconst (v := 0) hx hb dX1_start_0 (by decide) ?_
  refine lv_istore_n (lv' := [(3, .int 0), (0, .ref (ad 6)), (1, .int (nI n)), (2, .int t)]) hx hb dX1_start_1 rfl hl (by decide) rfl (fun ls hl => ?_)
  have loop_2 : ∀ (f i : Nat), i ≤ 8 → 8 < i + f → ∀ (H : Heap) (locs : List Loc) (ls : Array Slot), xG D sh ad A s.heap (pSt V i) H locs → lv_has ls 4 [(0, .ref (ad 6)), (1, .int (nI n)), (2, .int t), (3, .int (nI i))] → W p l e (rmK 0) s m args below meth c H locs 0 0 (xQv below D sh ad tys A args s (pBeg V n t)) (F0 m 2 ls []) := by
    intro f
    induction f with
    | zero => intro i h1 h2; exact absurd h2 (by omega)
    | succ f ih_2 =>
      intro i hi hf H locs ls G hl
      refine lv_iload_n hx hb dX1_start_2 rfl (lv_at hl 3 rfl) ?_
      refine lv_bipush (v := 8) hx hb dX1_start_3 (by decide) ?_
      refine lv_icmp_ge (tgt := 29) hx hb dX1_start_5 (by decide) (fun c_5 => ?_) (fun c_5 => ?_)
      · skip
        have c_5 : 8 ≤ i := (nI_leI (a := 8) (b := i) (by omega) (by omega)).mp c_5
        refine lv_aload_n hx hb dX1_start_29 rfl (lv_at hl 0 rfl) ?_
        refine p_getA B G Pl hin1 4 (by decide) (by decide +kernel) dX1_start_30 ?_
        refine lv_iload_n hx hb dX1_start_33 rfl (lv_at hl 1 rfl) ?_
        refine lv_iload_n hx hb dX1_start_34 rfl (lv_at hl 2 rfl) ?_
        refine x_ast B G (13) Pl.2.2.2.2.2.1 0 Cx.1 n (show n < 8 from by omega) rfl (by decide) dX1_start_35 (fun H locs G => ?_)
        exact x_vret B G (by rw [show i = 8 by omega]; rfl) dX1_start_36
      · skip
        have c_5 : ¬ (8 ≤ i) := fun h9 => c_5 ((nI_leI (a := 8) (b := i) (by omega) (by omega)).mpr h9)
        refine lv_aload_n hx hb dX1_start_8 rfl (lv_at hl 0 rfl) ?_
        refine p_getA B G Pl hin1 4 (by decide) (by decide +kernel) dX1_start_9 ?_
        refine lv_iload_n hx hb dX1_start_12 rfl (lv_at hl 3 rfl) ?_
        refine lv_ldc (v := 2147483647) hx hb B.1.2.2.2.1 (B.1.2.2.2.2 (Cond.constant RX1 51 (2147483647)) (by decide +kernel)) dX1_start_13 ?_
        refine x_ast B G (13) Pl.2.2.2.2.2.1 0 Cx.1 i (show i < 8 from by omega) rfl (by decide) dX1_start_15 (fun H locs G => ?_)
        refine lv_aload_n hx hb dX1_start_16 rfl (lv_at hl 0 rfl) ?_
        refine p_getA B G Pl hin1 5 (by decide) (by decide +kernel) dX1_start_17 ?_
        refine lv_iload_n hx hb dX1_start_20 rfl (lv_at hl 3 rfl) ?_
        refine lv_iconst (v := 0) hx hb dX1_start_21 (by decide) ?_
        refine x_zast B G (14) Pl.2.2.2.2.2.2 1 Cx.2.1 i (show i < 8 from by omega) rfl (by decide) (Or.inl rfl) dX1_start_22 (fun H locs G => ?_)
        refine lv_iinc (v := nI (i + 1)) (lv' := [(3, .int (nI (i + 1))), (0, .ref (ad 6)), (1, .int (nI n)), (2, .int t)]) hx hb dX1_start_23 hl (k := 3) rfl (nI_add i 1) (by decide) rfl (fun ls hl => ?_)
        refine lv_goto (tgt := 2) hx hb dX1_start_26 (by decide) ?_
        have hl := lv_sub (l' := [(0, .ref (ad 6)), (1, .int (nI n)), (2, .int t), (3, .int (nI (i + 1)))]) hl [1, 2, 3, 0] rfl
        have eV : xu (xu (pSt V i) 13 i 2147483647) 14 i 0 = pSt V (i + 1) := pSt_s V i
        rw [eV] at G
        exact ih_2 (i + 1) (by omega) (by omega) _ _ _ G hl
  have hl := lv_sub (l' := [(0, .ref (ad 6)), (1, .int (nI n)), (2, .int t), (3, .int 0)]) hl [1, 2, 3, 0] rfl
  have hl := lv_cast hl (congrArg (fun z : Int32 => ([(0, .ref (ad 6)), (1, .int (nI n)), (2, .int t), (3, .int z)] : List (Nat × Value))) (show 0 = nI 0 from rfl))
  have eV : V = pSt V 0 := (pSt_0 V).symm
  rw [eV] at G
  exact loop_2 (8 + 1) 0 (by omega) (by omega) _ _ _ G hl
def pNr (V : xV) : Nat → Nat
  | 0 => 0
  | k + 1 => if V 14 k = 0 ∧ ¬ (if pNr V k = 0 then NEV else V 13 (pNr V k - 1)) ≤ V 13 k then k + 1 else pNr V k
def pEa (V : xV) (k : Nat) : Int32 := if pNr V k = 0 then NEV else V 13 (pNr V k - 1)
theorem pNr_le (V : xV) (k : Nat) : pNr V k ≤ k := by
  induction k with
  | zero => exact Nat.le_refl 0
  | succ k ih =>
    rcases Classical.em (V 14 k = 0 ∧ ¬ (if pNr V k = 0 then NEV else V 13 (pNr V k - 1)) ≤ V 13 k) with c | c
    · rw [show pNr V (k + 1) = k + 1 from if_pos c]; omega
    · rw [show pNr V (k + 1) = pNr V k from if_neg c]; omega
theorem pNr_t {V : xV} {k : Nat} (h1 : V 14 k = 0) (h2 : ¬ pEa V k ≤ V 13 k) : pNr V (k + 1) = k + 1 := if_pos ⟨h1, h2⟩
theorem pNr_f {V : xV} {k : Nat} (h : ¬ (V 14 k = 0 ∧ ¬ pEa V k ≤ V 13 k)) : pNr V (k + 1) = pNr V k := if_neg h
theorem pEa_t {V : xV} {k : Nat} (h1 : V 14 k = 0) (h2 : ¬ pEa V k ≤ V 13 k) : pEa V (k + 1) = V 13 k := by unfold pEa; rw [pNr_t h1 h2, if_neg (by omega)]; rfl
theorem pEa_f {V : xV} {k : Nat} (h : ¬ (V 14 k = 0 ∧ ¬ pEa V k ≤ V 13 k)) : pEa V (k + 1) = pEa V k := by
  have e := pNr_f h
  unfold pEa; rw [e]
set_option maxHeartbeats 4000000 in
set_option maxRecDepth 100000 in
theorem c_X1_nearestUnsettled (l : Launch) {D : va_G} {sh : xS} {ad : Nat → Nat} {cI cZ : ClassId} {tys : List (ClassId × FieldType)} (Cx : xCx sh ad cI cZ tys) (V : xV) (Pl : xPl sh ad cI cZ) : xMi l yX1_nearestUnsettled wsX1_nearestUnsettled (rmK 0) D sh ad tys V [.ref (ad 6)] (oI (pNr V 8)) V := by
  refine xOfi (cc := cX1_nearestUnsettled) (nL := 4) (ret := some .int) (own := RX1) (by decide) rfl rfl (Nat.le_of_ble_eq_true rfl) Cx.2.2 ?_
  intro p e s m args below meth c A ls B G hl
  have hx := B.1.1
  have hb := B.1.2.1
  have hin1 : ∀ w ∈ wsX10, w ∈ wsX1_nearestUnsettled := by decide +kernel
  have hl : lv_has ls 4 [(0, .ref (ad 6))] := hl
  refine lv_iconst (v := (-1)) hx hb dX1_nearestUnsettled_0 (by decide) ?_
  refine lv_istore_n (lv' := [(1, .int (-1)), (0, .ref (ad 6))]) hx hb dX1_nearestUnsettled_1 rfl hl (by decide) rfl (fun ls hl => ?_)
  refine lv_ldc (v := 2147483647) hx hb B.1.2.2.2.1 (B.1.2.2.2.2 (Cond.constant RX1 51 (2147483647)) (by decide +kernel)) dX1_nearestUnsettled_2 ?_
  refine lv_istore_n (lv' := [(2, .int 2147483647), (1, .int (-1)), (0, .ref (ad 6))]) hx hb dX1_nearestUnsettled_4 rfl hl (by decide) rfl (fun ls hl => ?_)
  refine lv_iconst (v := 0) hx hb dX1_nearestUnsettled_5 (by decide) ?_
  refine lv_istore_n (lv' := [(3, .int 0), (2, .int 2147483647), (1, .int (-1)), (0, .ref (ad 6))]) hx hb dX1_nearestUnsettled_6 rfl hl (by decide) rfl (fun ls hl => ?_)
  have loop_7 : ∀ (f i : Nat), i ≤ 8 → 8 < i + f → ∀ (H : Heap) (locs : List Loc) (ls : Array Slot), xG D sh ad A s.heap V H locs → lv_has ls 4 [(0, .ref (ad 6)), (1, .int (oI (pNr V i))), (2, .int (pEa V i)), (3, .int (nI i))] → W p l e (rmK 0) s m args below meth c H locs 0 0 (xQi below D sh ad tys A args s (oI (pNr V 8)) V) (F0 m 7 ls []) := by
    intro f
    induction f with
    | zero => intro i h1 h2; exact absurd h2 (by omega)
    | succ f ih_7 =>
      intro i hi hf H locs ls G hl
      refine lv_iload_n hx hb dX1_nearestUnsettled_7 rfl (lv_at hl 3 rfl) ?_
      refine lv_bipush (v := 8) hx hb dX1_nearestUnsettled_8 (by decide) ?_
      refine lv_icmp_ge (tgt := 47) hx hb dX1_nearestUnsettled_10 (by decide) (fun c_10 => ?_) (fun c_10 => ?_)
      · skip
        have c_10 : 8 ≤ i := (nI_leI (a := 8) (b := i) (by omega) (by omega)).mp c_10
        refine lv_iload_n hx hb dX1_nearestUnsettled_47 rfl (lv_at hl 1 rfl) ?_
        exact x_iret B G (by rw [show i = 8 by omega]) (rfl) dX1_nearestUnsettled_48
      · skip
        have c_10 : ¬ (8 ≤ i) := fun h9 => c_10 ((nI_leI (a := 8) (b := i) (by omega) (by omega)).mpr h9)
        refine lv_aload_n hx hb dX1_nearestUnsettled_13 rfl (lv_at hl 0 rfl) ?_
        refine p_getA B G Pl hin1 5 (by decide) (by decide +kernel) dX1_nearestUnsettled_14 ?_
        refine lv_iload_n hx hb dX1_nearestUnsettled_17 rfl (lv_at hl 3 rfl) ?_
        refine x_zald B G (14) Pl.2.2.2.2.2.2 1 Cx.2.1 i (show i < 8 from by omega) rfl (by decide) dX1_nearestUnsettled_18 ?_
        refine lv_if_ne (tgt := 41) hx hb dX1_nearestUnsettled_19 (by decide) (fun c_19 => ?_) (fun c_19 => ?_)
        · skip
          refine lv_iinc (v := nI (i + 1)) (lv' := [(3, .int (nI (i + 1))), (0, .ref (ad 6)), (1, .int (oI (pNr V i))), (2, .int (pEa V i))]) hx hb dX1_nearestUnsettled_41 hl (k := 3) rfl (nI_add i 1) (by decide) rfl (fun ls hl => ?_)
          refine lv_goto (tgt := 7) hx hb dX1_nearestUnsettled_44 (by decide) ?_
          have hl := lv_sub (l' := [(0, .ref (ad 6)), (1, .int (oI (pNr V i))), (2, .int (pEa V i)), (3, .int (nI (i + 1)))]) hl [1, 2, 3, 0] rfl
          have hl := lv_cast hl (congrArg (fun z : Int32 => ([(0, .ref (ad 6)), (1, .int z), (2, .int (pEa V i)), (3, .int (nI (i + 1)))] : List (Nat × Value))) (show oI (pNr V i) = oI (pNr V (i + 1)) from congrArg oI (pNr_f (fun z => c_19 z.1)).symm))
          have hl := lv_cast hl (congrArg (fun z : Int32 => ([(0, .ref (ad 6)), (1, .int (oI (pNr V (i + 1)))), (2, .int z), (3, .int (nI (i + 1)))] : List (Nat × Value))) (show pEa V i = pEa V (i + 1) from (pEa_f (fun z => c_19 z.1)).symm))
          exact ih_7 (i + 1) (by omega) (by omega) _ _ _ G hl
        · skip
          refine lv_aload_n hx hb dX1_nearestUnsettled_22 rfl (lv_at hl 0 rfl) ?_
          refine p_getA B G Pl hin1 4 (by decide) (by decide +kernel) dX1_nearestUnsettled_23 ?_
          refine lv_iload_n hx hb dX1_nearestUnsettled_26 rfl (lv_at hl 3 rfl) ?_
          refine x_ald B G (13) Pl.2.2.2.2.2.1 0 Cx.1 i (show i < 8 from by omega) rfl (by decide) dX1_nearestUnsettled_27 ?_
          refine lv_iload_n hx hb dX1_nearestUnsettled_28 rfl (lv_at hl 2 rfl) ?_
          refine lv_icmp_ge (tgt := 41) hx hb dX1_nearestUnsettled_29 (by decide) (fun c_29 => ?_) (fun c_29 => ?_)
          · skip
            refine lv_iinc (v := nI (i + 1)) (lv' := [(3, .int (nI (i + 1))), (0, .ref (ad 6)), (1, .int (oI (pNr V i))), (2, .int (pEa V i))]) hx hb dX1_nearestUnsettled_41 hl (k := 3) rfl (nI_add i 1) (by decide) rfl (fun ls hl => ?_)
            refine lv_goto (tgt := 7) hx hb dX1_nearestUnsettled_44 (by decide) ?_
            have hl := lv_sub (l' := [(0, .ref (ad 6)), (1, .int (oI (pNr V i))), (2, .int (pEa V i)), (3, .int (nI (i + 1)))]) hl [1, 2, 3, 0] rfl
            have hl := lv_cast hl (congrArg (fun z : Int32 => ([(0, .ref (ad 6)), (1, .int z), (2, .int (pEa V i)), (3, .int (nI (i + 1)))] : List (Nat × Value))) (show oI (pNr V i) = oI (pNr V (i + 1)) from congrArg oI (pNr_f (fun z => z.2 c_29)).symm))
            have hl := lv_cast hl (congrArg (fun z : Int32 => ([(0, .ref (ad 6)), (1, .int (oI (pNr V (i + 1)))), (2, .int z), (3, .int (nI (i + 1)))] : List (Nat × Value))) (show pEa V i = pEa V (i + 1) from (pEa_f (fun z => z.2 c_29)).symm))
            exact ih_7 (i + 1) (by omega) (by omega) _ _ _ G hl
          · skip
            refine lv_iload_n hx hb dX1_nearestUnsettled_32 rfl (lv_at hl 3 rfl) ?_
            refine lv_istore_n (lv' := [(1, .int (nI i)), (0, .ref (ad 6)), (2, .int (pEa V i)), (3, .int (nI i))]) hx hb dX1_nearestUnsettled_33 rfl hl (by decide) rfl (fun ls hl => ?_)
            refine lv_aload_n hx hb dX1_nearestUnsettled_34 rfl (lv_at hl 1 rfl) ?_
            refine p_getA B G Pl hin1 4 (by decide) (by decide +kernel) dX1_nearestUnsettled_35 ?_
            refine lv_iload_n hx hb dX1_nearestUnsettled_38 rfl (lv_at hl 3 rfl) ?_
            refine x_ald B G (13) Pl.2.2.2.2.2.1 0 Cx.1 i (show i < 8 from by omega) rfl (by decide) dX1_nearestUnsettled_39 ?_
            refine lv_istore_n (lv' := [(2, .int (V 13 i)), (1, .int (nI i)), (0, .ref (ad 6)), (3, .int (nI i))]) hx hb dX1_nearestUnsettled_40 rfl hl (by decide) rfl (fun ls hl => ?_)
            refine lv_iinc (v := nI (i + 1)) (lv' := [(3, .int (nI (i + 1))), (2, .int (V 13 i)), (1, .int (nI i)), (0, .ref (ad 6))]) hx hb dX1_nearestUnsettled_41 hl (k := 3) rfl (nI_add i 1) (by decide) rfl (fun ls hl => ?_)
            refine lv_goto (tgt := 7) hx hb dX1_nearestUnsettled_44 (by decide) ?_
            have hl := lv_sub (l' := [(0, .ref (ad 6)), (1, .int (nI i)), (2, .int (V 13 i)), (3, .int (nI (i + 1)))]) hl [3, 2, 1, 0] rfl
            have hl := lv_cast hl (congrArg (fun z : Int32 => ([(0, .ref (ad 6)), (1, .int z), (2, .int (V 13 i)), (3, .int (nI (i + 1)))] : List (Nat × Value))) (show nI i = oI (pNr V (i + 1)) from (congrArg oI (pNr_t c_19 c_29)).symm))
            have hl := lv_cast hl (congrArg (fun z : Int32 => ([(0, .ref (ad 6)), (1, .int (oI (pNr V (i + 1)))), (2, .int z), (3, .int (nI (i + 1)))] : List (Nat × Value))) (show V 13 i = pEa V (i + 1) from (pEa_t c_19 c_29).symm))
            exact ih_7 (i + 1) (by omega) (by omega) _ _ _ G hl
  have hl := lv_sub (l' := [(0, .ref (ad 6)), (1, .int (-1)), (2, .int 2147483647), (3, .int 0)]) hl [3, 2, 1, 0] rfl
  have hl := lv_cast hl (congrArg (fun z : Int32 => ([(0, .ref (ad 6)), (1, .int z), (2, .int 2147483647), (3, .int 0)] : List (Nat × Value))) (show (-1) = oI (pNr V 0) from rfl))
  have hl := lv_cast hl (congrArg (fun z : Int32 => ([(0, .ref (ad 6)), (1, .int (oI (pNr V 0))), (2, .int z), (3, .int 0)] : List (Nat × Value))) (show 2147483647 = pEa V 0 from rfl))
  have hl := lv_cast hl (congrArg (fun z : Int32 => ([(0, .ref (ad 6)), (1, .int (oI (pNr V 0))), (2, .int (pEa V 0)), (3, .int z)] : List (Nat × Value))) (show 0 = nI 0 from rfl))
  exact loop_7 (8 + 1) 0 (by omega) (by omega) _ _ _ G hl
def pOne (V : xV) (k : Nat) : Nat := (V 9 k).toNatClampNeg
def pTwo (V : xV) (k : Nat) : Nat := (V 10 k).toNatClampNeg
def cPl (V : xV) (nc : Nat) : Prop := ∀ k, k < nc → V 9 k = nI (pOne V k) ∧ pOne V k < 8 ∧ V 10 k = nI (pTwo V k) ∧ pTwo V k < 8
theorem cPl.eq {V W : xV} {nc : Nat} (h : cPl V nc) (e : W 9 = V 9) (e2 : W 10 = V 10) : cPl W nc := by
  intro k hk
  unfold pOne pTwo
  rw [e, e2]
  exact h k hk
def pSp (V : xV) (a : Nat) : Nat → xV
  | 0 => V
  | k + 1 => if pOne V k = a then pCarV (pSp V a k) k a (pTwo V k) else if pTwo V k = a then pCarV (pSp V a k) k a (pOne V k) else pSp V a k
theorem pSp_o (V : xV) (a k : Nat) {i : Nat} (h : i ≠ 13) : pSp V a k i = V i := by
  induction k with
  | zero => rfl
  | succ k ih =>
    unfold pSp
    split
    · rw [pCarV_o _ _ _ _ h, ih]
    · split
      · rw [pCarV_o _ _ _ _ h, ih]
      · exact ih
set_option maxHeartbeats 4000000 in
set_option maxRecDepth 100000 in
theorem c_X1_spread (l : Launch) {D : va_G} {sh : xS} {ad : Nat → Nat} {cI cZ : ClassId} {tys : List (ClassId × FieldType)} (Cx : xCx sh ad cI cZ tys) (V : xV) (Pl : xPl sh ad cI cZ) (a nc : Nat) (ha : a < 8) (hnc : V 6 6 = nI nc) (hc30 : nc ≤ 30) (hpl : cPl V nc) : xMv l yX1_spread wsX1_spread (rmK 2) D sh ad tys V [.ref (ad 6), .int (nI a)] (pSp V a nc) := by
  refine xOfv (cc := cX1_spread) (nL := 3) (ret := none) (own := RX1) (by decide) rfl rfl (Nat.le_of_ble_eq_true rfl) Cx.2.2 ?_
  intro p e s m args below meth c A ls B G hl
  have hx := B.1.1
  have hb := B.1.2.1
  have hin1 : ∀ w ∈ wsX10, w ∈ wsX1_spread := by decide +kernel
  have hl : lv_has ls 3 [(0, .ref (ad 6)), (1, .int (nI a))] := hl
  refine lv_iconst (v := 0) hx hb dX1_spread_0 (by decide) ?_
  refine lv_istore_n (lv' := [(2, .int 0), (0, .ref (ad 6)), (1, .int (nI a))]) hx hb dX1_spread_1 rfl hl (by decide) rfl (fun ls hl => ?_)
  have loop_2 : ∀ (f i : Nat), i ≤ nc → nc < i + f → ∀ (H : Heap) (locs : List Loc) (ls : Array Slot), xG D sh ad A s.heap (pSp V a i) H locs → lv_has ls 3 [(0, .ref (ad 6)), (1, .int (nI a)), (2, .int (nI i))] → W p l e (rmK 2) s m args below meth c H locs 0 0 (xQv below D sh ad tys A args s (pSp V a nc)) (F0 m 2 ls []) := by
    intro f
    induction f with
    | zero => intro i h1 h2; exact absurd h2 (by omega)
    | succ f ih_2 =>
      intro i hi hf H locs ls G hl
      refine lv_iload_n hx hb dX1_spread_2 rfl (lv_at hl 2 rfl) ?_
      refine lv_aload_n hx hb dX1_spread_3 rfl (lv_at hl 0 rfl) ?_
      refine p_getI B G Pl hin1 (by decide +kernel) dX1_spread_4 ?_
      refine x_top (show _ = nI nc from (by rw [pSp_o _ _ _ (by decide)]; exact hnc)) ?_
      refine lv_icmp_ge (tgt := 65) hx hb dX1_spread_7 (by decide) (fun c_7 => ?_) (fun c_7 => ?_)
      · skip
        have c_7 : nc ≤ i := (nI_leI (a := nc) (b := i) (by omega) (by omega)).mp c_7
        exact x_vret B G (by rw [show i = nc by omega]) dX1_spread_65
      · skip
        have c_7 : ¬ (nc ≤ i) := fun h9 => c_7 ((nI_leI (a := nc) (b := i) (by omega) (by omega)).mpr h9)
        obtain ⟨e_1, l_1, e_2, l_2⟩ := hpl i (by omega)
        refine lv_aload_n hx hb dX1_spread_10 rfl (lv_at hl 0 rfl) ?_
        refine p_getA B G Pl hin1 0 (by decide) (by decide +kernel) dX1_spread_11 ?_
        refine lv_iload_n hx hb dX1_spread_14 rfl (lv_at hl 2 rfl) ?_
        refine x_ald B G (9) Pl.2.1 0 Cx.1 i (show i < 30 from by omega) rfl (by decide) dX1_spread_15 ?_
        refine x_top (show _ = nI (pOne V i) from (by rw [pSp_o _ _ _ (by decide)]; exact e_1)) ?_
        refine lv_iload_n hx hb dX1_spread_16 rfl (lv_at hl 1 rfl) ?_
        refine lv_icmp_ne (tgt := 36) hx hb dX1_spread_17 (by decide) (fun c_17 => ?_) (fun c_17 => ?_)
        · skip
          have c_17 : ¬ ((pOne V i) = a) := fun h9 => c_17 ((nI_eq (a := (pOne V i)) (b := a) (by omega) (by omega)).mpr h9)
          refine lv_aload_n hx hb dX1_spread_36 rfl (lv_at hl 0 rfl) ?_
          refine p_getA B G Pl hin1 1 (by decide) (by decide +kernel) dX1_spread_37 ?_
          refine lv_iload_n hx hb dX1_spread_40 rfl (lv_at hl 2 rfl) ?_
          refine x_ald B G (10) Pl.2.2.1 0 Cx.1 i (show i < 30 from by omega) rfl (by decide) dX1_spread_41 ?_
          refine x_top (show _ = nI (pTwo V i) from (by rw [pSp_o _ _ _ (by decide)]; exact e_2)) ?_
          refine lv_iload_n hx hb dX1_spread_42 rfl (lv_at hl 1 rfl) ?_
          refine lv_icmp_ne (tgt := 59) hx hb dX1_spread_43 (by decide) (fun c_43 => ?_) (fun c_43 => ?_)
          · skip
            have c_43 : ¬ ((pTwo V i) = a) := fun h9 => c_43 ((nI_eq (a := (pTwo V i)) (b := a) (by omega) (by omega)).mpr h9)
            refine lv_iinc (v := nI (i + 1)) (lv' := [(2, .int (nI (i + 1))), (0, .ref (ad 6)), (1, .int (nI a))]) hx hb dX1_spread_59 hl (k := 2) rfl (nI_add i 1) (by decide) rfl (fun ls hl => ?_)
            refine lv_goto (tgt := 2) hx hb dX1_spread_62 (by decide) ?_
            have hl := lv_sub (l' := [(0, .ref (ad 6)), (1, .int (nI a)), (2, .int (nI (i + 1)))]) hl [1, 2, 0] rfl
            have eV : pSp V a i = pSp V a (i + 1) := ((if_neg c_17).trans (if_neg c_43)).symm
            rw [eV] at G
            exact ih_2 (i + 1) (by omega) (by omega) _ _ _ G hl
          · skip
            have c_43 : (pTwo V i) = a := (nI_eq (a := (pTwo V i)) (b := a) (by omega) (by omega)).mp c_43
            refine lv_aload_n hx hb dX1_spread_46 rfl (lv_at hl 0 rfl) ?_
            refine lv_iload_n hx hb dX1_spread_47 rfl (lv_at hl 2 rfl) ?_
            refine lv_iload_n hx hb dX1_spread_48 rfl (lv_at hl 1 rfl) ?_
            refine lv_aload_n hx hb dX1_spread_49 rfl (lv_at hl 0 rfl) ?_
            refine p_getA B G Pl hin1 0 (by decide) (by decide +kernel) dX1_spread_50 ?_
            refine lv_iload_n hx hb dX1_spread_53 rfl (lv_at hl 2 rfl) ?_
            refine x_ald B G (9) Pl.2.1 0 Cx.1 i (show i < 30 from by omega) rfl (by decide) dX1_spread_54 ?_
            refine x_top (show _ = nI (pOne V i) from (by rw [pSp_o _ _ _ (by decide)]; exact e_1)) ?_
            refine x_callVi (rest := []) B G (c_X1_carry l Cx (pSp V a i) Pl i a (pOne V i) (by omega) (by omega) (by omega)) (cwV 3 B.1.2.2.2.2 gX1_spread_X1_carry rfl rfl rfl (by decide +kernel) ⟨Nat.le_of_ble_eq_true rfl, Nat.le_of_ble_eq_true rfl⟩) (p_recv B G Pl) rfl hl.1 rfl (Nat.le_of_ble_eq_true rfl) ⟨Nat.zero_le _, Nat.zero_le _⟩ dX1_spread_55 (fun H locs G => ?_)
            refine lv_pop hx hb dX1_spread_58 rfl ?_
            refine lv_iinc (v := nI (i + 1)) (lv' := [(2, .int (nI (i + 1))), (0, .ref (ad 6)), (1, .int (nI a))]) hx hb dX1_spread_59 hl (k := 2) rfl (nI_add i 1) (by decide) rfl (fun ls hl => ?_)
            refine lv_goto (tgt := 2) hx hb dX1_spread_62 (by decide) ?_
            have hl := lv_sub (l' := [(0, .ref (ad 6)), (1, .int (nI a)), (2, .int (nI (i + 1)))]) hl [1, 2, 0] rfl
            have eV : pCarV (pSp V a i) i a (pOne V i) = pSp V a (i + 1) := ((if_neg c_17).trans (if_pos c_43)).symm
            rw [eV] at G
            exact ih_2 (i + 1) (by omega) (by omega) _ _ _ G hl
        · skip
          have c_17 : (pOne V i) = a := (nI_eq (a := (pOne V i)) (b := a) (by omega) (by omega)).mp c_17
          refine lv_aload_n hx hb dX1_spread_20 rfl (lv_at hl 0 rfl) ?_
          refine lv_iload_n hx hb dX1_spread_21 rfl (lv_at hl 2 rfl) ?_
          refine lv_iload_n hx hb dX1_spread_22 rfl (lv_at hl 1 rfl) ?_
          refine lv_aload_n hx hb dX1_spread_23 rfl (lv_at hl 0 rfl) ?_
          refine p_getA B G Pl hin1 1 (by decide) (by decide +kernel) dX1_spread_24 ?_
          refine lv_iload_n hx hb dX1_spread_27 rfl (lv_at hl 2 rfl) ?_
          refine x_ald B G (10) Pl.2.2.1 0 Cx.1 i (show i < 30 from by omega) rfl (by decide) dX1_spread_28 ?_
          refine x_top (show _ = nI (pTwo V i) from (by rw [pSp_o _ _ _ (by decide)]; exact e_2)) ?_
          refine x_callVi (rest := []) B G (c_X1_carry l Cx (pSp V a i) Pl i a (pTwo V i) (by omega) (by omega) (by omega)) (cwV 3 B.1.2.2.2.2 gX1_spread_X1_carry rfl rfl rfl (by decide +kernel) ⟨Nat.le_of_ble_eq_true rfl, Nat.le_of_ble_eq_true rfl⟩) (p_recv B G Pl) rfl hl.1 rfl (Nat.le_of_ble_eq_true rfl) ⟨Nat.zero_le _, Nat.zero_le _⟩ dX1_spread_29 (fun H locs G => ?_)
          refine lv_pop hx hb dX1_spread_32 rfl ?_
          refine lv_goto (tgt := 59) hx hb dX1_spread_33 (by decide) ?_
          refine lv_iinc (v := nI (i + 1)) (lv' := [(2, .int (nI (i + 1))), (0, .ref (ad 6)), (1, .int (nI a))]) hx hb dX1_spread_59 hl (k := 2) rfl (nI_add i 1) (by decide) rfl (fun ls hl => ?_)
          refine lv_goto (tgt := 2) hx hb dX1_spread_62 (by decide) ?_
          have hl := lv_sub (l' := [(0, .ref (ad 6)), (1, .int (nI a)), (2, .int (nI (i + 1)))]) hl [1, 2, 0] rfl
          have eV : pCarV (pSp V a i) i a (pTwo V i) = pSp V a (i + 1) := (if_pos c_17).symm
          rw [eV] at G
          exact ih_2 (i + 1) (by omega) (by omega) _ _ _ G hl
  have hl := lv_sub (l' := [(0, .ref (ad 6)), (1, .int (nI a)), (2, .int 0)]) hl [1, 2, 0] rfl
  have hl := lv_cast hl (congrArg (fun z : Int32 => ([(0, .ref (ad 6)), (1, .int (nI a)), (2, .int z)] : List (Nat × Value))) (show 0 = nI 0 from rfl))
  have eV : V = pSp V a 0 := rfl
  rw [eV] at G
  exact loop_2 (nc + 1) 0 (by omega) (by omega) _ _ _ G hl
theorem oI_m1 {k : Nat} (h : k < 2 ^ 31) : oI k = -1 ↔ k = 0 := by
  constructor
  · intro e
    exact (oI_neg h).mp (by rw [e]; decide)
  · intro e
    rw [e]; rfl
def pRun (nc d : Nat) : Nat → xV → xV
  | 0, V => V
  | f + 1, V => if pNr V 8 = 0 then V else if pNr V 8 - 1 = d then V else pRun nc d f (pSp (xu V 14 (pNr V 8 - 1) 1) (pNr V 8 - 1) nc)
theorem pRun_o (nc d f : Nat) (V : xV) {i : Nat} (h : i ≠ 13) (h2 : i ≠ 14) : pRun nc d f V i = V i := by
  induction f generalizing V with
  | zero => rfl
  | succ f ih =>
    unfold pRun
    split
    · rfl
    · split
      · rfl
      · rw [ih, pSp_o _ _ _ h, xu_ne _ _ _ h2]
def pFin (V : xV) (n d nc : Nat) (t : Int32) : xV := pRun nc d 8 (pBeg V n t)
theorem pFin_o (V : xV) (n d nc : Nat) (t : Int32) {i : Nat} (h : i ≠ 13) (h2 : i ≠ 14) : pFin V n d nc t i = V i := by unfold pFin; rw [pRun_o _ _ _ _ h h2, pBeg_o _ _ _ h h2]
set_option maxHeartbeats 4000000 in
set_option maxRecDepth 100000 in
theorem c_X1_arrivalByNodes (l : Launch) {D : va_G} {sh : xS} {ad : Nat → Nat} {cI cZ : ClassId} {tys : List (ClassId × FieldType)} (Cx : xCx sh ad cI cZ tys) (V : xV) (Pl : xPl sh ad cI cZ) (n d nc : Nat) (t : Int32) (hn : n < 8) (hd : d < 8) (hnc : V 6 6 = nI nc) (hc30 : nc ≤ 30) (hpl : cPl V nc) : xMi l yX1_arrivalByNodes wsX1_arrivalByNodes (rmK 3) D sh ad tys V [.ref (ad 6), .int (nI n), .int (nI d), .int t] ((pFin V n d nc t) 13 d) (pFin V n d nc t) := by
  refine xOfi (cc := cX1_arrivalByNodes) (nL := 6) (ret := some .int) (own := RX1) (by decide) rfl rfl (Nat.le_of_ble_eq_true rfl) Cx.2.2 ?_
  intro p e s m args below meth c A ls B G hl
  have hx := B.1.1
  have hb := B.1.2.1
  have hin1 : ∀ w ∈ wsX10, w ∈ wsX1_arrivalByNodes := by decide +kernel
  have hl : lv_has ls 6 [(0, .ref (ad 6)), (1, .int (nI n)), (2, .int (nI d)), (3, .int t)] := hl
  refine lv_aload_n hx hb dX1_arrivalByNodes_0 rfl (lv_at hl 0 rfl) ?_
  refine lv_iload_n hx hb dX1_arrivalByNodes_1 rfl (lv_at hl 1 rfl) ?_
  refine lv_iload_n hx hb dX1_arrivalByNodes_2 rfl (lv_at hl 3 rfl) ?_
  refine x_callVv (rest := []) B G (c_X1_start l Cx V Pl n t hn) (cwV 2 B.1.2.2.2.2 gX1_arrivalByNodes_X1_start rfl rfl rfl (by decide +kernel) ⟨Nat.le_of_ble_eq_true rfl, Nat.le_of_ble_eq_true rfl⟩) (p_recv B G Pl) rfl hl.1 rfl (Nat.le_of_ble_eq_true rfl) ⟨Nat.zero_le _, Nat.zero_le _⟩ dX1_arrivalByNodes_3 (fun H locs G => ?_)
  refine lv_iconst (v := 0) hx hb dX1_arrivalByNodes_6 (by decide) ?_
  refine lv_istore (lv' := [(4, .int 0), (0, .ref (ad 6)), (1, .int (nI n)), (2, .int (nI d)), (3, .int t)]) hx hb dX1_arrivalByNodes_7 hl (by decide) rfl (fun ls hl => ?_)
  have main : ∀ (f i : Nat) (W0 : xV), i ≤ 8 → 8 < i + f → W0 6 = V 6 → W0 9 = V 9 → W0 10 = V 10 → pRun nc d (8 - i) W0 = (pFin V n d nc t) → ∀ (H : Heap) (locs : List Loc) (ls : Array Slot), xG D sh ad A s.heap W0 H locs → lv_has ls 6 [(0, .ref (ad 6)), (1, .int (nI n)), (2, .int (nI d)), (3, .int t), (4, .int (nI i))] → W p l e (rmK 3) s m args below meth c H locs 0 0 (xQi below D sh ad tys A args s ((pFin V n d nc t) 13 d) (pFin V n d nc t)) (F0 m 9 ls []) := by
    intro f
    induction f with
    | zero => intro i W0 h1 h2; exact absurd h2 (by omega)
    | succ f ih_9 =>
      intro i W0 hi hf h6 h9 h10 hr H locs ls G hl
      have b_8 := pNr_le W0 8
      refine lv_iload hx hb dX1_arrivalByNodes_9 (lv_at hl 4 rfl) ?_
      refine lv_bipush (v := 8) hx hb dX1_arrivalByNodes_11 (by decide) ?_
      refine lv_icmp_ge (tgt := 57) hx hb dX1_arrivalByNodes_13 (by decide) (fun c_13 => ?_) (fun c_13 => ?_)
      · skip
        have c_13 : 8 ≤ i := (nI_leI (a := 8) (b := i) (by omega) (by omega)).mp c_13
        have e_W : W0 = (pFin V n d nc t) := by rw [← hr, show 8 - i = 0 by omega]; rfl
        refine lv_aload_n hx hb dX1_arrivalByNodes_57 rfl (lv_at hl 0 rfl) ?_
        refine p_getA B G Pl hin1 4 (by decide) (by decide +kernel) dX1_arrivalByNodes_58 ?_
        refine lv_iload_n hx hb dX1_arrivalByNodes_61 rfl (lv_at hl 2 rfl) ?_
        refine x_ald B G (13) Pl.2.2.2.2.2.1 0 Cx.1 d (show d < 8 from by omega) rfl (by decide) dX1_arrivalByNodes_62 ?_
        exact x_iret B G (congrFun (congrFun e_W 13) d) (e_W) dX1_arrivalByNodes_63
      · skip
        have c_13 : ¬ (8 ≤ i) := fun h9 => c_13 ((nI_leI (a := 8) (b := i) (by omega) (by omega)).mpr h9)
        refine lv_aload_n hx hb dX1_arrivalByNodes_16 rfl (lv_at hl 0 rfl) ?_
        refine x_callVi (rest := []) B G (c_X1_nearestUnsettled l Cx W0 Pl) (cwV 0 B.1.2.2.2.2 gX1_arrivalByNodes_X1_nearestUnsettled rfl rfl rfl (by decide +kernel) ⟨Nat.le_of_ble_eq_true rfl, Nat.le_of_ble_eq_true rfl⟩) (p_recv B G Pl) rfl hl.1 rfl (Nat.le_of_ble_eq_true rfl) ⟨Nat.zero_le _, Nat.zero_le _⟩ dX1_arrivalByNodes_17 (fun H locs G => ?_)
        refine lv_istore (lv' := [(5, .int (oI (pNr W0 8))), (0, .ref (ad 6)), (1, .int (nI n)), (2, .int (nI d)), (3, .int t), (4, .int (nI i))]) hx hb dX1_arrivalByNodes_20 hl (by decide) rfl (fun ls hl => ?_)
        refine lv_iload hx hb dX1_arrivalByNodes_22 (lv_at hl 0 rfl) ?_
        refine lv_iconst (v := (-1)) hx hb dX1_arrivalByNodes_24 (by decide) ?_
        refine lv_icmp_eq (tgt := 57) hx hb dX1_arrivalByNodes_25 (by decide) (fun c_25 => ?_) (fun c_25 => ?_)
        · skip
          have e_W : W0 = (pFin V n d nc t) := by rw [← hr, show 8 - i = (8 - (i + 1)) + 1 by omega]; exact (if_pos ((oI_m1 (by omega)).mp c_25)).symm
          refine lv_aload_n hx hb dX1_arrivalByNodes_57 rfl (lv_at hl 1 rfl) ?_
          refine p_getA B G Pl hin1 4 (by decide) (by decide +kernel) dX1_arrivalByNodes_58 ?_
          refine lv_iload_n hx hb dX1_arrivalByNodes_61 rfl (lv_at hl 3 rfl) ?_
          refine x_ald B G (13) Pl.2.2.2.2.2.1 0 Cx.1 d (show d < 8 from by omega) rfl (by decide) dX1_arrivalByNodes_62 ?_
          exact x_iret B G (congrFun (congrFun e_W 13) d) (e_W) dX1_arrivalByNodes_63
        · skip
          have z_25 : ¬ pNr W0 8 = 0 := fun z => c_25 ((oI_m1 (by omega)).mpr z)
          refine lv_iload hx hb dX1_arrivalByNodes_28 (lv_at hl 0 rfl) ?_
          refine x_top (show _ = nI (pNr W0 8 - 1) from (oI_c z_25)) ?_
          refine lv_iload_n hx hb dX1_arrivalByNodes_30 rfl (lv_at hl 3 rfl) ?_
          refine lv_icmp_ne (tgt := 37) hx hb dX1_arrivalByNodes_31 (by decide) (fun c_31 => ?_) (fun c_31 => ?_)
          · skip
            have c_31 : ¬ ((pNr W0 8 - 1) = d) := fun h9 => c_31 ((nI_eq (a := (pNr W0 8 - 1)) (b := d) (by omega) (by omega)).mpr h9)
            refine lv_aload_n hx hb dX1_arrivalByNodes_37 rfl (lv_at hl 1 rfl) ?_
            refine p_getA B G Pl hin1 5 (by decide) (by decide +kernel) dX1_arrivalByNodes_38 ?_
            refine lv_iload hx hb dX1_arrivalByNodes_41 (lv_at hl 0 rfl) ?_
            refine x_top (show _ = nI (pNr W0 8 - 1) from (oI_c z_25)) ?_
            refine lv_iconst (v := 1) hx hb dX1_arrivalByNodes_43 (by decide) ?_
            refine x_zast B G (14) Pl.2.2.2.2.2.2 1 Cx.2.1 (pNr W0 8 - 1) (show (pNr W0 8 - 1) < 8 from by omega) rfl (by decide) (Or.inr rfl) dX1_arrivalByNodes_44 (fun H locs G => ?_)
            refine lv_aload_n hx hb dX1_arrivalByNodes_45 rfl (lv_at hl 1 rfl) ?_
            refine lv_iload hx hb dX1_arrivalByNodes_46 (lv_at hl 0 rfl) ?_
            refine x_top (show _ = nI (pNr W0 8 - 1) from (oI_c z_25)) ?_
            refine x_callVv (rest := []) B G (c_X1_spread l Cx (xu W0 14 (pNr W0 8 - 1) 1) Pl (pNr W0 8 - 1) nc (by omega) (by show W0 6 6 = nI nc; rw [h6]; exact hnc) hc30 (hpl.eq h9 h10)) (cwV 1 B.1.2.2.2.2 gX1_arrivalByNodes_X1_spread rfl rfl rfl (by decide +kernel) ⟨Nat.le_of_ble_eq_true rfl, Nat.le_of_ble_eq_true rfl⟩) (p_recv B G Pl) rfl hl.1 rfl (Nat.le_of_ble_eq_true rfl) ⟨Nat.zero_le _, Nat.zero_le _⟩ dX1_arrivalByNodes_48 (fun H locs G => ?_)
            refine lv_iinc (v := nI (i + 1)) (lv' := [(4, .int (nI (i + 1))), (5, .int (oI (pNr W0 8))), (0, .ref (ad 6)), (1, .int (nI n)), (2, .int (nI d)), (3, .int t)]) hx hb dX1_arrivalByNodes_51 hl (k := 5) rfl (nI_add i 1) (by decide) rfl (fun ls hl => ?_)
            refine lv_goto (tgt := 9) hx hb dX1_arrivalByNodes_54 (by decide) ?_
            have hl := lv_sub (l' := [(0, .ref (ad 6)), (1, .int (nI n)), (2, .int (nI d)), (3, .int t), (4, .int (nI (i + 1)))]) hl [2, 3, 4, 5, 0] rfl
            exact ih_9 (i + 1) (pSp (xu W0 14 (pNr W0 8 - 1) 1) (pNr W0 8 - 1) nc) (by omega) (by omega) (by rw [pSp_o _ _ _ (by decide)]; exact h6) (by rw [pSp_o _ _ _ (by decide)]; exact h9) (by rw [pSp_o _ _ _ (by decide)]; exact h10) (by rw [← hr, show 8 - i = (8 - (i + 1)) + 1 by omega]; exact ((if_neg z_25).trans (if_neg c_31)).symm) _ _ _ G hl
          · skip
            have c_31 : (pNr W0 8 - 1) = d := (nI_eq (a := (pNr W0 8 - 1)) (b := d) (by omega) (by omega)).mp c_31
            refine lv_goto (tgt := 57) hx hb dX1_arrivalByNodes_34 (by decide) ?_
            have e_W : W0 = (pFin V n d nc t) := by rw [← hr, show 8 - i = (8 - (i + 1)) + 1 by omega]; exact ((if_neg z_25).trans (if_pos c_31)).symm
            refine lv_aload_n hx hb dX1_arrivalByNodes_57 rfl (lv_at hl 1 rfl) ?_
            refine p_getA B G Pl hin1 4 (by decide) (by decide +kernel) dX1_arrivalByNodes_58 ?_
            refine lv_iload_n hx hb dX1_arrivalByNodes_61 rfl (lv_at hl 3 rfl) ?_
            refine x_ald B G (13) Pl.2.2.2.2.2.1 0 Cx.1 d (show d < 8 from by omega) rfl (by decide) dX1_arrivalByNodes_62 ?_
            exact x_iret B G (congrFun (congrFun e_W 13) d) (e_W) dX1_arrivalByNodes_63
  have hl := lv_sub (l' := [(0, .ref (ad 6)), (1, .int (nI n)), (2, .int (nI d)), (3, .int t), (4, .int 0)]) hl [1, 2, 3, 4, 0] rfl
  have hl := lv_cast hl (congrArg (fun z : Int32 => ([(0, .ref (ad 6)), (1, .int (nI n)), (2, .int (nI d)), (3, .int t), (4, .int z)] : List (Nat × Value))) (show 0 = nI 0 from rfl))
  exact main 9 0 (pBeg V n t) (by omega) (by omega) (pBeg_o _ _ _ (by decide) (by decide)) (pBeg_o _ _ _ (by decide) (by decide)) (pBeg_o _ _ _ (by decide) (by decide)) rfl _ _ _ G hl
def pRow (V : xV) : Nat → xV × Bool
  | 0 => (V, false)
  | k + 1 => if pCarB (pRow V k).1 k (pOne V k) (pTwo V k) = true then (pCarV (pRow V k).1 k (pOne V k) (pTwo V k), true)
     else if pCarB (pCarV (pRow V k).1 k (pOne V k) (pTwo V k)) k (pTwo V k) (pOne V k) = true then (pCarV (pCarV (pRow V k).1 k (pOne V k) (pTwo V k)) k (pTwo V k) (pOne V k), true)
     else (pCarV (pCarV (pRow V k).1 k (pOne V k) (pTwo V k)) k (pTwo V k) (pOne V k), (pRow V k).2)
theorem pRow_1 {V : xV} {k : Nat} (h : pCarB (pRow V k).1 k (pOne V k) (pTwo V k) = true) : pRow V (k + 1) = (pCarV (pRow V k).1 k (pOne V k) (pTwo V k), true) := if_pos h
theorem pRow_2 {V : xV} {k : Nat} (h : ¬ pCarB (pRow V k).1 k (pOne V k) (pTwo V k) = true) (h2 : pCarB (pCarV (pRow V k).1 k (pOne V k) (pTwo V k)) k (pTwo V k) (pOne V k) = true) : pRow V (k + 1) = (pCarV (pCarV (pRow V k).1 k (pOne V k) (pTwo V k)) k (pTwo V k) (pOne V k), true) := (if_neg h).trans (if_pos h2)
theorem pRow_3 {V : xV} {k : Nat} (h : ¬ pCarB (pRow V k).1 k (pOne V k) (pTwo V k) = true) (h2 : ¬ pCarB (pCarV (pRow V k).1 k (pOne V k) (pTwo V k)) k (pTwo V k) (pOne V k) = true) : pRow V (k + 1) = (pCarV (pCarV (pRow V k).1 k (pOne V k) (pTwo V k)) k (pTwo V k) (pOne V k), (pRow V k).2) := (if_neg h).trans (if_neg h2)
theorem pRow_o (V : xV) (k : Nat) {i : Nat} (h : i ≠ 13) : (pRow V k).1 i = V i := by
  induction k with
  | zero => rfl
  | succ k ih =>
    unfold pRow
    split
    · exact (pCarV_o _ _ _ _ h).trans ih
    · split
      · exact (pCarV_o _ _ _ _ h).trans ((pCarV_o _ _ _ _ h).trans ih)
      · exact (pCarV_o _ _ _ _ h).trans ((pCarV_o _ _ _ _ h).trans ih)
def pRnd (nc : Nat) : Nat → xV → xV
  | 0, V => V
  | f + 1, V => if (pRow V nc).2 = true then pRnd nc f (pRow V nc).1 else (pRow V nc).1
theorem pRnd_o (nc f : Nat) (V : xV) {i : Nat} (h : i ≠ 13) : pRnd nc f V i = V i := by
  induction f generalizing V with
  | zero => rfl
  | succ f ih =>
    unfold pRnd
    split
    · rw [ih, pRow_o _ _ h]
    · rw [pRow_o _ _ h]
def pAll (V : xV) (n nc : Nat) (t : Int32) : xV := pRnd nc 8 (pBeg V n t)
theorem pAll_o (V : xV) (n nc : Nat) (t : Int32) {i : Nat} (h : i ≠ 13) (h2 : i ≠ 14) : pAll V n nc t i = V i := by unfold pAll; rw [pRnd_o _ _ _ h, pBeg_o _ _ _ h h2]
set_option maxHeartbeats 4000000 in
set_option maxRecDepth 100000 in
theorem c_X1_arrivalByContacts (l : Launch) {D : va_G} {sh : xS} {ad : Nat → Nat} {cI cZ : ClassId} {tys : List (ClassId × FieldType)} (Cx : xCx sh ad cI cZ tys) (V : xV) (Pl : xPl sh ad cI cZ) (n d nc : Nat) (t : Int32) (hn : n < 8) (hd : d < 8) (hnc : V 6 6 = nI nc) (hc30 : nc ≤ 30) (hpl : cPl V nc) : xMi l yX1_arrivalByContacts wsX1_arrivalByContacts (rmK 3) D sh ad tys V [.ref (ad 6), .int (nI n), .int (nI d), .int t] ((pAll V n nc t) 13 d) (pAll V n nc t) := by
  refine xOfi (cc := cX1_arrivalByContacts) (nL := 7) (ret := some .int) (own := RX1) (by decide) rfl rfl (Nat.le_of_ble_eq_true rfl) Cx.2.2 ?_
  intro p e s m args below meth c A ls B G hl
  have hx := B.1.1
  have hb := B.1.2.1
  have hin1 : ∀ w ∈ wsX10, w ∈ wsX1_arrivalByContacts := by decide +kernel
  have hl : lv_has ls 7 [(0, .ref (ad 6)), (1, .int (nI n)), (2, .int (nI d)), (3, .int t)] := hl
  refine lv_aload_n hx hb dX1_arrivalByContacts_0 rfl (lv_at hl 0 rfl) ?_
  refine lv_iload_n hx hb dX1_arrivalByContacts_1 rfl (lv_at hl 1 rfl) ?_
  refine lv_iload_n hx hb dX1_arrivalByContacts_2 rfl (lv_at hl 3 rfl) ?_
  refine x_callVv (rest := []) B G (c_X1_start l Cx V Pl n t hn) (cwV 2 B.1.2.2.2.2 gX1_arrivalByContacts_X1_start rfl rfl rfl (by decide +kernel) ⟨Nat.le_of_ble_eq_true rfl, Nat.le_of_ble_eq_true rfl⟩) (p_recv B G Pl) rfl hl.1 rfl (Nat.le_of_ble_eq_true rfl) ⟨Nat.zero_le _, Nat.zero_le _⟩ dX1_arrivalByContacts_3 (fun H locs G => ?_)
  refine lv_iconst (v := 1) hx hb dX1_arrivalByContacts_6 (by decide) ?_
  refine lv_istore (lv' := [(4, .int 1), (0, .ref (ad 6)), (1, .int (nI n)), (2, .int (nI d)), (3, .int t)]) hx hb dX1_arrivalByContacts_7 hl (by decide) rfl (fun ls hl => ?_)
  refine lv_iconst (v := 0) hx hb dX1_arrivalByContacts_9 (by decide) ?_
  refine lv_istore (lv' := [(5, .int 0), (4, .int 1), (0, .ref (ad 6)), (1, .int (nI n)), (2, .int (nI d)), (3, .int t)]) hx hb dX1_arrivalByContacts_10 hl (by decide) rfl (fun ls hl => ?_)
  have main : ∀ (f i : Nat) (W0 : xV) (ch : Bool), i ≤ 8 → 8 < i + f → W0 6 = V 6 → W0 9 = V 9 → W0 10 = V 10 → (if ch = true then pRnd nc (8 - i) W0 else W0) = (pAll V n nc t) → ∀ (H : Heap) (locs : List Loc) (ls : Array Slot), xG D sh ad A s.heap W0 H locs → lv_has ls 7 [(0, .ref (ad 6)), (1, .int (nI n)), (2, .int (nI d)), (3, .int t), (4, .int (b2i (ch = true))), (5, .int (nI i))] → W p l e (rmK 3) s m args below meth c H locs 0 0 (xQi below D sh ad tys A args s ((pAll V n nc t) 13 d) (pAll V n nc t)) (F0 m 12 ls []) := by
    intro f
    induction f with
    | zero => intro i W0 ch h1 h2; exact absurd h2 (by omega)
    | succ f ih_12 =>
      intro i W0 ch hi hf h6 h9 h10 hr H locs ls G hl
      refine lv_iload hx hb dX1_arrivalByContacts_12 (lv_at hl 5 rfl) ?_
      refine lv_bipush (v := 8) hx hb dX1_arrivalByContacts_14 (by decide) ?_
      refine lv_icmp_ge (tgt := 100) hx hb dX1_arrivalByContacts_16 (by decide) (fun c_16 => ?_) (fun c_16 => ?_)
      · skip
        have c_16 : 8 ≤ i := (nI_leI (a := 8) (b := i) (by omega) (by omega)).mp c_16
        have e_W : W0 = (pAll V n nc t) := by rw [← hr, show 8 - i = 0 by omega]; split <;> rfl
        refine lv_aload_n hx hb dX1_arrivalByContacts_100 rfl (lv_at hl 0 rfl) ?_
        refine p_getA B G Pl hin1 4 (by decide) (by decide +kernel) dX1_arrivalByContacts_101 ?_
        refine lv_iload_n hx hb dX1_arrivalByContacts_104 rfl (lv_at hl 2 rfl) ?_
        refine x_ald B G (13) Pl.2.2.2.2.2.1 0 Cx.1 d (show d < 8 from by omega) rfl (by decide) dX1_arrivalByContacts_105 ?_
        exact x_iret B G (congrFun (congrFun e_W 13) d) (e_W) dX1_arrivalByContacts_106
      · skip
        have c_16 : ¬ (8 ≤ i) := fun h9 => c_16 ((nI_leI (a := 8) (b := i) (by omega) (by omega)).mpr h9)
        refine lv_iload hx hb dX1_arrivalByContacts_19 (lv_at hl 4 rfl) ?_
        refine lv_if_eq (tgt := 100) hx hb dX1_arrivalByContacts_21 (by decide) (fun c_21 => ?_) (fun c_21 => ?_)
        · skip
          have e_W : W0 = (pAll V n nc t) := by rw [← hr]; exact (if_neg (b2i_0.mp c_21)).symm
          refine lv_aload_n hx hb dX1_arrivalByContacts_100 rfl (lv_at hl 0 rfl) ?_
          refine p_getA B G Pl hin1 4 (by decide) (by decide +kernel) dX1_arrivalByContacts_101 ?_
          refine lv_iload_n hx hb dX1_arrivalByContacts_104 rfl (lv_at hl 2 rfl) ?_
          refine x_ald B G (13) Pl.2.2.2.2.2.1 0 Cx.1 d (show d < 8 from by omega) rfl (by decide) dX1_arrivalByContacts_105 ?_
          exact x_iret B G (congrFun (congrFun e_W 13) d) (e_W) dX1_arrivalByContacts_106
        · skip
          refine lv_iconst (v := 0) hx hb dX1_arrivalByContacts_24 (by decide) ?_
          refine lv_istore (lv' := [(4, .int 0), (0, .ref (ad 6)), (1, .int (nI n)), (2, .int (nI d)), (3, .int t), (5, .int (nI i))]) hx hb dX1_arrivalByContacts_25 hl (by decide) rfl (fun ls hl => ?_)
          refine lv_iconst (v := 0) hx hb dX1_arrivalByContacts_27 (by decide) ?_
          refine lv_istore (lv' := [(6, .int 0), (4, .int 0), (0, .ref (ad 6)), (1, .int (nI n)), (2, .int (nI d)), (3, .int t), (5, .int (nI i))]) hx hb dX1_arrivalByContacts_28 hl (by decide) rfl (fun ls hl => ?_)
          have loop_30 : ∀ (f i_1 : Nat), i_1 ≤ nc → nc < i_1 + f → ∀ (H : Heap) (locs : List Loc) (ls : Array Slot), xG D sh ad A s.heap ((pRow W0 i_1).1) H locs → lv_has ls 7 [(0, .ref (ad 6)), (1, .int (nI n)), (2, .int (nI d)), (3, .int t), (4, .int (b2i ((pRow W0 i_1).2 = true))), (5, .int (nI i)), (6, .int (nI i_1))] → W p l e (rmK 3) s m args below meth c H locs 0 0 (xQi below D sh ad tys A args s ((pAll V n nc t) 13 d) (pAll V n nc t)) (F0 m 30 ls []) := by
            intro f
            induction f with
            | zero => intro i_1 h1 h2; exact absurd h2 (by omega)
            | succ f ih_30 =>
              intro i_1 hi hf H locs ls G hl
              refine lv_iload hx hb dX1_arrivalByContacts_30 (lv_at hl 6 rfl) ?_
              refine lv_aload_n hx hb dX1_arrivalByContacts_32 rfl (lv_at hl 0 rfl) ?_
              refine p_getI B G Pl hin1 (by decide +kernel) dX1_arrivalByContacts_33 ?_
              refine x_top (show _ = nI nc from (by rw [pRow_o _ _ (by decide), h6]; exact hnc)) ?_
              refine lv_icmp_ge (tgt := 94) hx hb dX1_arrivalByContacts_36 (by decide) (fun c_36 => ?_) (fun c_36 => ?_)
              · skip
                have c_36 : nc ≤ i_1 := (nI_leI (a := nc) (b := i_1) (by omega) (by omega)).mp c_36
                have e_i : i_1 = nc := by omega
                rw [e_i] at G hl
                refine lv_iinc (v := nI (i + 1)) (lv' := [(5, .int (nI (i + 1))), (0, .ref (ad 6)), (1, .int (nI n)), (2, .int (nI d)), (3, .int t), (4, .int (b2i ((pRow W0 nc).2 = true))), (6, .int (nI nc))]) hx hb dX1_arrivalByContacts_94 hl (k := 5) rfl (nI_add i 1) (by decide) rfl (fun ls hl => ?_)
                refine lv_goto (tgt := 12) hx hb dX1_arrivalByContacts_97 (by decide) ?_
                have hl := lv_sub (l' := [(0, .ref (ad 6)), (1, .int (nI n)), (2, .int (nI d)), (3, .int t), (4, .int (b2i ((pRow W0 nc).2 = true))), (5, .int (nI (i + 1)))]) hl [1, 2, 3, 4, 5, 0] rfl
                exact ih_12 (i + 1) (pRow W0 nc).1 (pRow W0 nc).2 (by omega) (by omega) (by rw [pRow_o _ _ (by decide)]; exact h6) (by rw [pRow_o _ _ (by decide)]; exact h9) (by rw [pRow_o _ _ (by decide)]; exact h10) (by rw [← hr, if_pos (b2i_1 c_21), show 8 - i = (8 - (i + 1)) + 1 by omega]; rfl) _ _ _ G hl
              · skip
                have c_36 : ¬ (nc ≤ i_1) := fun h9 => c_36 ((nI_leI (a := nc) (b := i_1) (by omega) (by omega)).mpr h9)
                obtain ⟨e_1, l_1, e_2, l_2⟩ := (hpl.eq h9 h10) i_1 (by omega)
                refine lv_aload_n hx hb dX1_arrivalByContacts_39 rfl (lv_at hl 0 rfl) ?_
                refine lv_iload hx hb dX1_arrivalByContacts_40 (lv_at hl 6 rfl) ?_
                refine lv_aload_n hx hb dX1_arrivalByContacts_42 rfl (lv_at hl 0 rfl) ?_
                refine p_getA B G Pl hin1 0 (by decide) (by decide +kernel) dX1_arrivalByContacts_43 ?_
                refine lv_iload hx hb dX1_arrivalByContacts_46 (lv_at hl 6 rfl) ?_
                refine x_ald B G (9) Pl.2.1 0 Cx.1 i_1 (show i_1 < 30 from by omega) rfl (by decide) dX1_arrivalByContacts_48 ?_
                refine x_top (show _ = nI (pOne W0 i_1) from (by first | (rw [pRow_o _ _ (by decide)]; exact e_1) | (rw [pCarV_o _ _ _ _ (by decide), pRow_o _ _ (by decide)]; exact e_1))) ?_
                refine lv_aload_n hx hb dX1_arrivalByContacts_49 rfl (lv_at hl 0 rfl) ?_
                refine p_getA B G Pl hin1 1 (by decide) (by decide +kernel) dX1_arrivalByContacts_50 ?_
                refine lv_iload hx hb dX1_arrivalByContacts_53 (lv_at hl 6 rfl) ?_
                refine x_ald B G (10) Pl.2.2.1 0 Cx.1 i_1 (show i_1 < 30 from by omega) rfl (by decide) dX1_arrivalByContacts_55 ?_
                refine x_top (show _ = nI (pTwo W0 i_1) from (by first | (rw [pRow_o _ _ (by decide)]; exact e_2) | (rw [pCarV_o _ _ _ _ (by decide), pRow_o _ _ (by decide)]; exact e_2))) ?_
                refine x_callVi (rest := []) B G (c_X1_carry l Cx ((pRow W0 i_1).1) Pl i_1 (pOne W0 i_1) (pTwo W0 i_1) (by omega) (by omega) (by omega)) (cwV 3 B.1.2.2.2.2 gX1_arrivalByContacts_X1_carry rfl rfl rfl (by decide +kernel) ⟨Nat.le_of_ble_eq_true rfl, Nat.le_of_ble_eq_true rfl⟩) (p_recv B G Pl) rfl hl.1 rfl (Nat.le_of_ble_eq_true rfl) ⟨Nat.zero_le _, Nat.zero_le _⟩ dX1_arrivalByContacts_56 (fun H locs G => ?_)
                refine lv_if_ne (tgt := 85) hx hb dX1_arrivalByContacts_59 (by decide) (fun c_59 => ?_) (fun c_59 => ?_)
                · skip
                  refine lv_iconst (v := 1) hx hb dX1_arrivalByContacts_85 (by decide) ?_
                  refine lv_istore (lv' := [(4, .int 1), (0, .ref (ad 6)), (1, .int (nI n)), (2, .int (nI d)), (3, .int t), (5, .int (nI i)), (6, .int (nI i_1))]) hx hb dX1_arrivalByContacts_86 hl (by decide) rfl (fun ls hl => ?_)
                  refine lv_iinc (v := nI (i_1 + 1)) (lv' := [(6, .int (nI (i_1 + 1))), (4, .int 1), (0, .ref (ad 6)), (1, .int (nI n)), (2, .int (nI d)), (3, .int t), (5, .int (nI i))]) hx hb dX1_arrivalByContacts_88 hl (k := 6) rfl (nI_add i_1 1) (by decide) rfl (fun ls hl => ?_)
                  refine lv_goto (tgt := 30) hx hb dX1_arrivalByContacts_91 (by decide) ?_
                  have hl := lv_sub (l' := [(0, .ref (ad 6)), (1, .int (nI n)), (2, .int (nI d)), (3, .int t), (4, .int 1), (5, .int (nI i)), (6, .int (nI (i_1 + 1)))]) hl [2, 3, 4, 5, 1, 6, 0] rfl
                  have hl := lv_cast hl (congrArg (fun z : Int32 => ([(0, .ref (ad 6)), (1, .int (nI n)), (2, .int (nI d)), (3, .int t), (4, .int z), (5, .int (nI i)), (6, .int (nI (i_1 + 1)))] : List (Nat × Value))) (show 1 = b2i ((pRow W0 (i_1 + 1)).2 = true) from (by rw [show (pRow W0 (i_1 + 1)).2 = _ from congrArg Prod.snd (pRow_1 (b2i_1 c_59))]; exact b2i_true.symm)))
                  have eV : pCarV ((pRow W0 i_1).1) i_1 (pOne W0 i_1) (pTwo W0 i_1) = (pRow W0 (i_1 + 1)).1 := (congrArg Prod.fst (pRow_1 (b2i_1 c_59))).symm
                  rw [eV] at G
                  exact ih_30 (i_1 + 1) (by omega) (by omega) _ _ _ G hl
                · skip
                  refine lv_aload_n hx hb dX1_arrivalByContacts_62 rfl (lv_at hl 0 rfl) ?_
                  refine lv_iload hx hb dX1_arrivalByContacts_63 (lv_at hl 6 rfl) ?_
                  refine lv_aload_n hx hb dX1_arrivalByContacts_65 rfl (lv_at hl 0 rfl) ?_
                  refine p_getA B G Pl hin1 1 (by decide) (by decide +kernel) dX1_arrivalByContacts_66 ?_
                  refine lv_iload hx hb dX1_arrivalByContacts_69 (lv_at hl 6 rfl) ?_
                  refine x_ald B G (10) Pl.2.2.1 0 Cx.1 i_1 (show i_1 < 30 from by omega) rfl (by decide) dX1_arrivalByContacts_71 ?_
                  refine x_top (show _ = nI (pTwo W0 i_1) from (by first | (rw [pRow_o _ _ (by decide)]; exact e_2) | (rw [pCarV_o _ _ _ _ (by decide), pRow_o _ _ (by decide)]; exact e_2))) ?_
                  refine lv_aload_n hx hb dX1_arrivalByContacts_72 rfl (lv_at hl 0 rfl) ?_
                  refine p_getA B G Pl hin1 0 (by decide) (by decide +kernel) dX1_arrivalByContacts_73 ?_
                  refine lv_iload hx hb dX1_arrivalByContacts_76 (lv_at hl 6 rfl) ?_
                  refine x_ald B G (9) Pl.2.1 0 Cx.1 i_1 (show i_1 < 30 from by omega) rfl (by decide) dX1_arrivalByContacts_78 ?_
                  refine x_top (show _ = nI (pOne W0 i_1) from (by first | (rw [pRow_o _ _ (by decide)]; exact e_1) | (rw [pCarV_o _ _ _ _ (by decide), pRow_o _ _ (by decide)]; exact e_1))) ?_
                  refine x_callVi (rest := []) B G (c_X1_carry l Cx (pCarV ((pRow W0 i_1).1) i_1 (pOne W0 i_1) (pTwo W0 i_1)) Pl i_1 (pTwo W0 i_1) (pOne W0 i_1) (by omega) (by omega) (by omega)) (cwV 3 B.1.2.2.2.2 gX1_arrivalByContacts_X1_carry rfl rfl rfl (by decide +kernel) ⟨Nat.le_of_ble_eq_true rfl, Nat.le_of_ble_eq_true rfl⟩) (p_recv B G Pl) rfl hl.1 rfl (Nat.le_of_ble_eq_true rfl) ⟨Nat.zero_le _, Nat.zero_le _⟩ dX1_arrivalByContacts_79 (fun H locs G => ?_)
                  refine lv_if_eq (tgt := 88) hx hb dX1_arrivalByContacts_82 (by decide) (fun c_82 => ?_) (fun c_82 => ?_)
                  · skip
                    refine lv_iinc (v := nI (i_1 + 1)) (lv' := [(6, .int (nI (i_1 + 1))), (0, .ref (ad 6)), (1, .int (nI n)), (2, .int (nI d)), (3, .int t), (4, .int (b2i ((pRow W0 i_1).2 = true))), (5, .int (nI i))]) hx hb dX1_arrivalByContacts_88 hl (k := 6) rfl (nI_add i_1 1) (by decide) rfl (fun ls hl => ?_)
                    refine lv_goto (tgt := 30) hx hb dX1_arrivalByContacts_91 (by decide) ?_
                    have hl := lv_sub (l' := [(0, .ref (ad 6)), (1, .int (nI n)), (2, .int (nI d)), (3, .int t), (4, .int (b2i ((pRow W0 i_1).2 = true))), (5, .int (nI i)), (6, .int (nI (i_1 + 1)))]) hl [1, 2, 3, 4, 5, 6, 0] rfl
                    have hl := lv_cast hl (congrArg (fun z : Int32 => ([(0, .ref (ad 6)), (1, .int (nI n)), (2, .int (nI d)), (3, .int t), (4, .int z), (5, .int (nI i)), (6, .int (nI (i_1 + 1)))] : List (Nat × Value))) (show b2i ((pRow W0 i_1).2 = true) = b2i ((pRow W0 (i_1 + 1)).2 = true) from (by rw [show (pRow W0 (i_1 + 1)).2 = _ from congrArg Prod.snd (pRow_3 (b2i_0.mp c_59) (b2i_0.mp c_82))])))
                    have eV : pCarV (pCarV ((pRow W0 i_1).1) i_1 (pOne W0 i_1) (pTwo W0 i_1)) i_1 (pTwo W0 i_1) (pOne W0 i_1) = (pRow W0 (i_1 + 1)).1 := (congrArg Prod.fst (pRow_3 (b2i_0.mp c_59) (b2i_0.mp c_82))).symm
                    rw [eV] at G
                    exact ih_30 (i_1 + 1) (by omega) (by omega) _ _ _ G hl
                  · skip
                    refine lv_iconst (v := 1) hx hb dX1_arrivalByContacts_85 (by decide) ?_
                    refine lv_istore (lv' := [(4, .int 1), (0, .ref (ad 6)), (1, .int (nI n)), (2, .int (nI d)), (3, .int t), (5, .int (nI i)), (6, .int (nI i_1))]) hx hb dX1_arrivalByContacts_86 hl (by decide) rfl (fun ls hl => ?_)
                    refine lv_iinc (v := nI (i_1 + 1)) (lv' := [(6, .int (nI (i_1 + 1))), (4, .int 1), (0, .ref (ad 6)), (1, .int (nI n)), (2, .int (nI d)), (3, .int t), (5, .int (nI i))]) hx hb dX1_arrivalByContacts_88 hl (k := 6) rfl (nI_add i_1 1) (by decide) rfl (fun ls hl => ?_)
                    refine lv_goto (tgt := 30) hx hb dX1_arrivalByContacts_91 (by decide) ?_
                    have hl := lv_sub (l' := [(0, .ref (ad 6)), (1, .int (nI n)), (2, .int (nI d)), (3, .int t), (4, .int 1), (5, .int (nI i)), (6, .int (nI (i_1 + 1)))]) hl [2, 3, 4, 5, 1, 6, 0] rfl
                    have hl := lv_cast hl (congrArg (fun z : Int32 => ([(0, .ref (ad 6)), (1, .int (nI n)), (2, .int (nI d)), (3, .int t), (4, .int z), (5, .int (nI i)), (6, .int (nI (i_1 + 1)))] : List (Nat × Value))) (show 1 = b2i ((pRow W0 (i_1 + 1)).2 = true) from (by rw [show (pRow W0 (i_1 + 1)).2 = _ from congrArg Prod.snd (pRow_2 (b2i_0.mp c_59) (b2i_1 c_82))]; exact b2i_true.symm)))
                    have eV : pCarV (pCarV ((pRow W0 i_1).1) i_1 (pOne W0 i_1) (pTwo W0 i_1)) i_1 (pTwo W0 i_1) (pOne W0 i_1) = (pRow W0 (i_1 + 1)).1 := (congrArg Prod.fst (pRow_2 (b2i_0.mp c_59) (b2i_1 c_82))).symm
                    rw [eV] at G
                    exact ih_30 (i_1 + 1) (by omega) (by omega) _ _ _ G hl
          have hl := lv_sub (l' := [(0, .ref (ad 6)), (1, .int (nI n)), (2, .int (nI d)), (3, .int t), (4, .int 0), (5, .int (nI i)), (6, .int 0)]) hl [2, 3, 4, 5, 1, 6, 0] rfl
          have hl := lv_cast hl (congrArg (fun z : Int32 => ([(0, .ref (ad 6)), (1, .int (nI n)), (2, .int (nI d)), (3, .int t), (4, .int z), (5, .int (nI i)), (6, .int 0)] : List (Nat × Value))) (show 0 = b2i ((pRow W0 0).2 = true) from b2i_false.symm))
          have hl := lv_cast hl (congrArg (fun z : Int32 => ([(0, .ref (ad 6)), (1, .int (nI n)), (2, .int (nI d)), (3, .int t), (4, .int (b2i ((pRow W0 0).2 = true))), (5, .int (nI i)), (6, .int z)] : List (Nat × Value))) (show 0 = nI 0 from rfl))
          have eV : W0 = (pRow W0 0).1 := rfl
          rw [eV] at G
          exact loop_30 (nc + 1) 0 (by omega) (by omega) _ _ _ G hl
  have hl := lv_sub (l' := [(0, .ref (ad 6)), (1, .int (nI n)), (2, .int (nI d)), (3, .int t), (4, .int 1), (5, .int 0)]) hl [2, 3, 4, 5, 1, 0] rfl
  have hl := lv_cast hl (congrArg (fun z : Int32 => ([(0, .ref (ad 6)), (1, .int (nI n)), (2, .int (nI d)), (3, .int t), (4, .int z), (5, .int 0)] : List (Nat × Value))) (show 1 = b2i (true = true) from b2i_true.symm))
  have hl := lv_cast hl (congrArg (fun z : Int32 => ([(0, .ref (ad 6)), (1, .int (nI n)), (2, .int (nI d)), (3, .int t), (4, .int (b2i (true = true))), (5, .int z)] : List (Nat × Value))) (show 0 = nI 0 from rfl))
  exact main 9 0 (pBeg V n t) true (by omega) (by omega) (pBeg_o _ _ _ (by decide) (by decide)) (pBeg_o _ _ _ (by decide) (by decide)) (pBeg_o _ _ _ (by decide) (by decide)) (if_pos rfl) _ _ _ G hl
set_option maxHeartbeats 4000000 in
set_option maxRecDepth 100000 in
theorem c_X1_add_bad (l : Launch) {D : va_G} {sh : xS} {ad : Nat → Nat} {cI cZ : ClassId} {tys : List (ClassId × FieldType)} (Cx : xCx sh ad cI cZ tys) (V : xV) (Pl : xPl sh ad cI cZ) (x y f g : Int32) (h30 : ¬ V 6 6 < 30) : xMi l yX1_add wsX1_add (rmK 0) D sh ad tys V [.ref (ad 6), .int x, .int y, .int f, .int g] 0 V := by
  refine xOfi (cc := cX1_add) (nL := 5) (ret := some .boolean) (own := RX1) (by decide) rfl rfl (Nat.le_of_ble_eq_true rfl) Cx.2.2 ?_
  intro p e s m args below meth c A ls B G hl
  have hx := B.1.1
  have hb := B.1.2.1
  have hin1 : ∀ w ∈ wsX10, w ∈ wsX1_add := by decide +kernel
  have hl : lv_has ls 5 [(0, .ref (ad 6)), (1, .int x), (2, .int y), (3, .int f), (4, .int g)] := hl
  refine lv_aload_n hx hb dX1_add_0 rfl (lv_at hl 0 rfl) ?_
  refine p_getI B G Pl hin1 (by decide +kernel) dX1_add_1 ?_
  refine lv_bipush (v := 30) hx hb dX1_add_4 (by decide) ?_
  refine lv_icmp_lt (tgt := 11) hx hb dX1_add_6 (by decide) (fun c_6 => ?_) (fun c_6 => ?_)
  · exact False.elim (h30 c_6)
  · skip
    refine lv_iconst (v := 0) hx hb dX1_add_9 (by decide) ?_
    exact x_zret B G (Or.inl rfl) (rfl) (rfl) dX1_add_10
set_option maxHeartbeats 4000000 in
set_option maxRecDepth 100000 in
theorem c_X1_add_ok (l : Launch) {D : va_G} {sh : xS} {ad : Nat → Nat} {cI cZ : ClassId} {tys : List (ClassId × FieldType)} (Cx : xCx sh ad cI cZ tys) (V : xV) (Pl : xPl sh ad cI cZ) (x y f g : Int32) (nc : Nat) (hnc : V 6 6 = nI nc) (hc30 : nc < 30) : xMi l yX1_add wsX1_add (rmK 0) D sh ad tys V [.ref (ad 6), .int x, .int y, .int f, .int g] 1 (xu (xu (xu (xu (xu V 9 nc x) 10 nc y) 11 nc f) 12 nc g) 6 6 (nI (nc + 1))) := by
  refine xOfi (cc := cX1_add) (nL := 5) (ret := some .boolean) (own := RX1) (by decide) rfl rfl (Nat.le_of_ble_eq_true rfl) Cx.2.2 ?_
  intro p e s m args below meth c A ls B G hl
  have hx := B.1.1
  have hb := B.1.2.1
  have hin1 : ∀ w ∈ wsX10, w ∈ wsX1_add := by decide +kernel
  have hl : lv_has ls 5 [(0, .ref (ad 6)), (1, .int x), (2, .int y), (3, .int f), (4, .int g)] := hl
  refine lv_aload_n hx hb dX1_add_0 rfl (lv_at hl 0 rfl) ?_
  refine p_getI B G Pl hin1 (by decide +kernel) dX1_add_1 ?_
  refine x_top (show _ = nI nc from hnc) ?_
  refine lv_bipush (v := 30) hx hb dX1_add_4 (by decide) ?_
  refine lv_icmp_lt (tgt := 11) hx hb dX1_add_6 (by decide) (fun c_6 => ?_) (fun c_6 => ?_)
  · skip
    have c_6 : nc < 30 := (nI_ltI (a := nc) (b := 30) (by omega) (by omega)).mp c_6
    refine lv_aload_n hx hb dX1_add_11 rfl (lv_at hl 0 rfl) ?_
    refine p_getA B G Pl hin1 0 (by decide) (by decide +kernel) dX1_add_12 ?_
    refine lv_aload_n hx hb dX1_add_15 rfl (lv_at hl 0 rfl) ?_
    refine p_getI B G Pl hin1 (by decide +kernel) dX1_add_16 ?_
    refine x_top (show _ = nI nc from hnc) ?_
    refine lv_iload_n hx hb dX1_add_19 rfl (lv_at hl 1 rfl) ?_
    refine x_ast B G (9) Pl.2.1 0 Cx.1 nc (show nc < 30 from by omega) rfl (by decide) dX1_add_20 (fun H locs G => ?_)
    refine lv_aload_n hx hb dX1_add_21 rfl (lv_at hl 0 rfl) ?_
    refine p_getA B G Pl hin1 1 (by decide) (by decide +kernel) dX1_add_22 ?_
    refine lv_aload_n hx hb dX1_add_25 rfl (lv_at hl 0 rfl) ?_
    refine p_getI B G Pl hin1 (by decide +kernel) dX1_add_26 ?_
    refine x_top (show _ = nI nc from hnc) ?_
    refine lv_iload_n hx hb dX1_add_29 rfl (lv_at hl 2 rfl) ?_
    refine x_ast B G (10) Pl.2.2.1 0 Cx.1 nc (show nc < 30 from by omega) rfl (by decide) dX1_add_30 (fun H locs G => ?_)
    refine lv_aload_n hx hb dX1_add_31 rfl (lv_at hl 0 rfl) ?_
    refine p_getA B G Pl hin1 2 (by decide) (by decide +kernel) dX1_add_32 ?_
    refine lv_aload_n hx hb dX1_add_35 rfl (lv_at hl 0 rfl) ?_
    refine p_getI B G Pl hin1 (by decide +kernel) dX1_add_36 ?_
    refine x_top (show _ = nI nc from hnc) ?_
    refine lv_iload_n hx hb dX1_add_39 rfl (lv_at hl 3 rfl) ?_
    refine x_ast B G (11) Pl.2.2.2.1 0 Cx.1 nc (show nc < 30 from by omega) rfl (by decide) dX1_add_40 (fun H locs G => ?_)
    refine lv_aload_n hx hb dX1_add_41 rfl (lv_at hl 0 rfl) ?_
    refine p_getA B G Pl hin1 3 (by decide) (by decide +kernel) dX1_add_42 ?_
    refine lv_aload_n hx hb dX1_add_45 rfl (lv_at hl 0 rfl) ?_
    refine p_getI B G Pl hin1 (by decide +kernel) dX1_add_46 ?_
    refine x_top (show _ = nI nc from hnc) ?_
    refine lv_iload hx hb dX1_add_49 (lv_at hl 4 rfl) ?_
    refine x_ast B G (12) Pl.2.2.2.2.1 0 Cx.1 nc (show nc < 30 from by omega) rfl (by decide) dX1_add_51 (fun H locs G => ?_)
    refine lv_aload_n hx hb dX1_add_52 rfl (lv_at hl 0 rfl) ?_
    refine lv_dup hx hb dX1_add_53 rfl ?_
    refine p_getI B G Pl hin1 (by decide +kernel) dX1_add_54 ?_
    refine x_top (show _ = nI nc from hnc) ?_
    refine lv_iconst (v := 1) hx hb dX1_add_57 (by decide) ?_
    refine lv_iadd hx hb dX1_add_58 ?_
    refine x_top (show (nI nc) + 1 = nI (nc + 1) from nI_add nc 1) ?_
    refine p_putI B G Pl hin1 (by decide +kernel) dX1_add_59 (fun H locs G => ?_)
    refine lv_iconst (v := 1) hx hb dX1_add_62 (by decide) ?_
    exact x_zret B G (Or.inr rfl) (rfl) (rfl) dX1_add_63
  · exact False.elim (c_6 (nI_lt hc30 (by decide)))
