/-! THE LAW'S METHODS that make nothing: low, deliveries, same, bundles -/
set_option maxRecDepth 100000 in
theorem c_L_low (l : Launch) {D : va_G} {sh : xS} {ad : Nat → Nat} {tys : List (ClassId × FieldType)} (hI : xI sh ad) (V : xV) (v : Int32) (n : Nat) (h0 : 0 < n) (hn : n < 2 ^ 31) : xMi l yL_low wsL_low (rmK 0) D sh ad tys V [.int v, .int (nI n)] (nI (lowN v % n)) V := by
  refine xOfi (cc := cL_low) (nL := 2) (ret := some .int) (own := RL) (by decide) rfl rfl (Nat.le_of_ble_eq_true rfl) hI ?_
  intro p e s m args below meth c A ls B G hl
  have hx := B.1.1
  have hb := B.1.2.1
  have hl : lv_has ls 2 [(0, .int v), (1, .int (nI n))] := hl
  refine lv_iload_n hx hb dL_low_0 rfl (lv_at hl 0 rfl) ?_
  refine lv_ldc (v := 2147483647) hx hb B.1.2.2.2.1 (B.1.2.2.2.2 (Cond.constant RL 8 (2147483647)) (by decide +kernel)) dL_low_1 ?_
  refine lv_iand hx hb dL_low_3 ?_
  refine lv_iload_n hx hb dL_low_4 rfl (lv_at hl 1 rfl) ?_
  refine lv_irem hx hb dL_low_5 (nI_ne0 h0 hn) ?_
  exact x_iret B G (by rw [pk_and v 31 (by decide), pk_rem (Nat.mod_lt _ (Nat.two_pow_pos 31)) h0 hn]; rfl) rfl dL_low_6
/-- how many are delivered -/
def dlv (V : xV) (k : Nat) : Bool := decide (0 ≤ V (20 + 4 * k) 8)
set_option maxHeartbeats 4000000 in
set_option maxRecDepth 100000 in
theorem c_L_deliveries (l : Launch) {D : va_G} {sh : xS} {ad : Nat → Nat} {cI cZ cO : ClassId} {tys : List (ClassId × FieldType)} {t nb nc : Nat} {od S : Nat → Nat} (DL : xDl sh ad cI cZ cO tys nb od) (V : xV) (hI : INV t nb nc od S V)  : xMi l yL_deliveries wsL_deliveries (rmK 5) D sh ad tys V [.ref (ad 0)] (nI (cntP (dlv V) nb)) V := by
  refine xOfi (cc := cL_deliveries) (nL := 3) (ret := some .int) (own := RL) (by decide) rfl rfl (Nat.le_of_ble_eq_true rfl) DL.2.2.2.2.2.2.1.2.2 ?_
  intro p e s m args below meth c A ls B G hl
  have hx := B.1.1
  have hb := B.1.2.1
  have Dl := DL.1
  have hT0 := DL.2.2.2.2.2.2.1.1
  have h40 := DL.2.2.2.2.2.2.2.2
  have hl : lv_has ls 3 [(0, .ref (ad 0))] := hl
  refine lv_iconst (v := 0) hx hb dL_deliveries_0 (by decide) ?_
  refine lv_istore_n (lv' := [(1, .int 0), (0, .ref (ad 0))]) hx hb dL_deliveries_1 rfl hl (by decide) rfl (fun ls hl => ?_)
  refine lv_iconst (v := 0) hx hb dL_deliveries_2 (by decide) ?_
  refine lv_istore_n (lv' := [(2, .int 0), (1, .int 0), (0, .ref (ad 0))]) hx hb dL_deliveries_3 rfl hl (by decide) rfl (fun ls hl => ?_)
  have loop_4 : ∀ (f i : Nat), i ≤ nb → nb < i + f → ∀ (H : Heap) (locs : List Loc) (ls : Array Slot), xG D sh ad A s.heap V H locs → lv_has ls 3 [(0, .ref (ad 0)), (1, .int (nI (cntP (dlv V) i))), (2, .int (nI i))] → W p l e (rmK 5) s m args below meth c H locs 0 0 (xQi below D sh ad tys A args s (nI (cntP (dlv V) nb)) V) (F0 m 4 ls []) := by
    intro f
    induction f with
    | zero => intro i h1 h2; exact absurd h2 (by omega)
    | succ f ih_4 =>
      intro i hi hf H locs ls G hl
      refine lv_iload_n hx hb dL_deliveries_4 rfl (lv_at hl 2 rfl) ?_
      refine lv_aload_n hx hb dL_deliveries_5 rfl (lv_at hl 0 rfl) ?_
      refine x_callVi (rest := [.int (nI i)]) B G (t_bundles l DL hI (TS.refl V)) (cwV 0 B.1.2.2.2.2 gL_deliveries_X2_bundles rfl rfl rfl (by decide +kernel) ⟨Nat.le_of_ble_eq_true rfl, Nat.le_of_ble_eq_true rfl⟩) (d_recv B G Dl) rfl hl.1 rfl (Nat.le_of_ble_eq_true rfl) ⟨Nat.zero_le _, Nat.zero_le _⟩ dL_deliveries_6 (fun H locs G => ?_)
      refine lv_icmp_ge (tgt := 34) hx hb dL_deliveries_9 (by decide) (fun c_9 => ?_) (fun c_9 => ?_)
      · skip
        have c_9 : nb ≤ i := (nI_leI (a := nb) (b := i) (by omega) (by omega)).mp c_9
        refine lv_iload_n hx hb dL_deliveries_34 rfl (lv_at hl 1 rfl) ?_
        exact x_iret B G (by rw [show i = nb by omega]) (rfl) dL_deliveries_35
      · skip
        have c_9 : ¬ (nb ≤ i) := fun h9 => c_9 ((nI_leI (a := nb) (b := i) (by omega) (by omega)).mpr h9)
        refine lv_iload_n hx hb dL_deliveries_12 rfl (lv_at hl 1 rfl) ?_
        refine lv_aload_n hx hb dL_deliveries_13 rfl (lv_at hl 0 rfl) ?_
        refine lv_iload_n hx hb dL_deliveries_14 rfl (lv_at hl 2 rfl) ?_
        refine x_callVi (rest := [.int (nI (cntP (dlv V) i))]) B G ((t_fld (D := D) l DL hI (TS.refl V) (k := i) (by omega)).2.1) (cwV 1 B.1.2.2.2.2 gL_deliveries_X2_deliveredAt rfl rfl rfl (by decide +kernel) ⟨Nat.le_of_ble_eq_true rfl, Nat.le_of_ble_eq_true rfl⟩) (d_recv B G Dl) rfl hl.1 rfl (Nat.le_of_ble_eq_true rfl) ⟨Nat.zero_le _, Nat.zero_le _⟩ dL_deliveries_15 (fun H locs G => ?_)
        refine lv_if_ge (tgt := 25) hx hb dL_deliveries_18 (by decide) (fun c_18 => ?_) (fun c_18 => ?_)
        · skip
          refine lv_iconst (v := 1) hx hb dL_deliveries_25 (by decide) ?_
          refine lv_iadd hx hb dL_deliveries_26 ?_
          refine x_top (show (nI (cntP (dlv V) i)) + 1 = nI ((cntP (dlv V) i) + 1) from nI_add (cntP (dlv V) i) 1) ?_
          refine lv_istore_n (lv' := [(1, .int (nI ((cntP (dlv V) i) + 1))), (0, .ref (ad 0)), (2, .int (nI i))]) hx hb dL_deliveries_27 rfl hl (by decide) rfl (fun ls hl => ?_)
          refine lv_iinc (v := nI (i + 1)) (lv' := [(2, .int (nI (i + 1))), (1, .int (nI ((cntP (dlv V) i) + 1))), (0, .ref (ad 0))]) hx hb dL_deliveries_28 hl (k := 2) rfl (nI_add i 1) (by decide) rfl (fun ls hl => ?_)
          refine lv_goto (tgt := 4) hx hb dL_deliveries_31 (by decide) ?_
          have hl := lv_sub (l' := [(0, .ref (ad 0)), (1, .int (nI ((cntP (dlv V) i) + 1))), (2, .int (nI (i + 1)))]) hl [2, 1, 0] rfl
          have hl := lv_cast hl (congrArg (fun z : Int32 => ([(0, .ref (ad 0)), (1, .int z), (2, .int (nI (i + 1)))] : List (Nat × Value))) (show (nI ((cntP (dlv V) i) + 1)) = (nI (cntP (dlv V) (i + 1))) from congrArg nI (cntP_t (P := dlv V) (decide_eq_true c_18)).symm))
          exact ih_4 (i + 1) (by omega) (by omega) _ _ _ G hl
        · skip
          refine lv_iconst (v := 0) hx hb dL_deliveries_21 (by decide) ?_
          refine lv_goto (tgt := 26) hx hb dL_deliveries_22 (by decide) ?_
          refine lv_iadd hx hb dL_deliveries_26 ?_
          refine x_top (show (nI (cntP (dlv V) i)) + 0 = nI ((cntP (dlv V) i) + 0) from nI_add (cntP (dlv V) i) 0) ?_
          refine lv_istore_n (lv' := [(1, .int (nI ((cntP (dlv V) i) + 0))), (0, .ref (ad 0)), (2, .int (nI i))]) hx hb dL_deliveries_27 rfl hl (by decide) rfl (fun ls hl => ?_)
          refine lv_iinc (v := nI (i + 1)) (lv' := [(2, .int (nI (i + 1))), (1, .int (nI ((cntP (dlv V) i) + 0))), (0, .ref (ad 0))]) hx hb dL_deliveries_28 hl (k := 2) rfl (nI_add i 1) (by decide) rfl (fun ls hl => ?_)
          refine lv_goto (tgt := 4) hx hb dL_deliveries_31 (by decide) ?_
          have hl := lv_sub (l' := [(0, .ref (ad 0)), (1, .int (nI ((cntP (dlv V) i) + 0))), (2, .int (nI (i + 1)))]) hl [2, 1, 0] rfl
          have hl := lv_cast hl (congrArg (fun z : Int32 => ([(0, .ref (ad 0)), (1, .int z), (2, .int (nI (i + 1)))] : List (Nat × Value))) (show (nI ((cntP (dlv V) i) + 0)) = (nI (cntP (dlv V) (i + 1))) from congrArg nI (cntP_f (P := dlv V) (fun z => c_18 (of_decide_eq_true z))).symm))
          exact ih_4 (i + 1) (by omega) (by omega) _ _ _ G hl
  have hl := lv_sub (l' := [(0, .ref (ad 0)), (1, .int 0), (2, .int 0)]) hl [2, 1, 0] rfl
  have hl := lv_cast hl (congrArg (fun z : Int32 => ([(0, .ref (ad 0)), (1, .int z), (2, .int 0)] : List (Nat × Value))) (show 0 = (nI (cntP (dlv V) 0)) from rfl))
  have hl := lv_cast hl (congrArg (fun z : Int32 => ([(0, .ref (ad 0)), (1, .int (nI (cntP (dlv V) 0))), (2, .int z)] : List (Nat × Value))) (show 0 = (nI 0) from rfl))
  exact loop_4 (nb + 1) 0 (by omega) (by omega) _ _ _ G hl
set_option maxHeartbeats 4000000 in
set_option maxRecDepth 100000 in
theorem c_L_same (l : Launch) {D : va_G} {sh : xS} {ad : Nat → Nat} {cI : ClassId} {tys : List (ClassId × FieldType)} (V : xV) (hT0 : tys[0]? = some (cI, .int)) (hsx : xI sh ad) (s18 : sh 18 = some (fun f => .inl (cI, 64, .inl f))) (s19 : sh 19 = some (fun f => .inl (cI, 64, .inl f))) (he : ∀ k, k < 64 → V 18 k = V 19 k) : xMi l yL_same wsL_same (rmK 0) D sh ad tys V [.ref (ad 18), .ref (ad 19)] 1 V := by
  refine xOfi (cc := cL_same) (nL := 3) (ret := some .boolean) (own := RL) (by decide) rfl rfl (Nat.le_of_ble_eq_true rfl) hsx ?_
  intro p e s m args below meth c A ls B G hl
  have hx := B.1.1
  have hb := B.1.2.1
  have hl : lv_has ls 3 [(0, .ref (ad 18)), (1, .ref (ad 19))] := hl
  refine lv_iconst (v := 0) hx hb dL_same_0 (by decide) ?_
  refine lv_istore_n (lv' := [(2, .int 0), (0, .ref (ad 18)), (1, .ref (ad 19))]) hx hb dL_same_1 rfl hl (by decide) rfl (fun ls hl => ?_)
  have loop_2 : ∀ (f i : Nat), i ≤ 64 → 64 < i + f → ∀ (H : Heap) (locs : List Loc) (ls : Array Slot), xG D sh ad A s.heap V H locs → lv_has ls 3 [(0, .ref (ad 18)), (1, .ref (ad 19)), (2, .int (nI i))] → W p l e (rmK 0) s m args below meth c H locs 0 0 (xQi below D sh ad tys A args s 1 V) (F0 m 2 ls []) := by
    intro f
    induction f with
    | zero => intro i h1 h2; exact absurd h2 (by omega)
    | succ f ih_2 =>
      intro i hi hf H locs ls G hl
      refine lv_iload_n hx hb dL_same_2 rfl (lv_at hl 2 rfl) ?_
      refine lv_bipush (v := 64) hx hb dL_same_3 (by decide) ?_
      refine lv_icmp_ge (tgt := 25) hx hb dL_same_5 (by decide) (fun c_5 => ?_) (fun c_5 => ?_)
      · skip
        have c_5 : 64 ≤ i := (nI_leI (a := 64) (b := i) (by omega) (by omega)).mp c_5
        refine lv_iconst (v := 1) hx hb dL_same_25 (by decide) ?_
        exact x_zret B G (Or.inr rfl) (rfl) (rfl) dL_same_26
      · skip
        have c_5 : ¬ (64 ≤ i) := fun h9 => c_5 ((nI_leI (a := 64) (b := i) (by omega) (by omega)).mpr h9)
        refine lv_aload_n hx hb dL_same_8 rfl (lv_at hl 0 rfl) ?_
        refine lv_iload_n hx hb dL_same_9 rfl (lv_at hl 2 rfl) ?_
        refine x_ald B G 18 s18 0 hT0 i (show i < 64 from by omega) rfl (by decide) dL_same_10 ?_
        refine lv_aload_n hx hb dL_same_11 rfl (lv_at hl 1 rfl) ?_
        refine lv_iload_n hx hb dL_same_12 rfl (lv_at hl 2 rfl) ?_
        refine x_ald B G 19 s19 0 hT0 i (show i < 64 from by omega) rfl (by decide) dL_same_13 ?_
        refine lv_icmp_eq (tgt := 19) hx hb dL_same_14 (by decide) (fun c_14 => ?_) (fun c_14 => ?_)
        · skip
          refine lv_iinc (v := nI (i + 1)) (lv' := [(2, .int (nI (i + 1))), (0, .ref (ad 18)), (1, .ref (ad 19))]) hx hb dL_same_19 hl (k := 2) rfl (nI_add i 1) (by decide) rfl (fun ls hl => ?_)
          refine lv_goto (tgt := 2) hx hb dL_same_22 (by decide) ?_
          have hl := lv_sub (l' := [(0, .ref (ad 18)), (1, .ref (ad 19)), (2, .int (nI (i + 1)))]) hl [1, 2, 0] rfl
          exact ih_2 (i + 1) (by omega) (by omega) _ _ _ G hl
        · exact False.elim (c_14 (he i (by omega)))
  have hl := lv_sub (l' := [(0, .ref (ad 18)), (1, .ref (ad 19)), (2, .int 0)]) hl [1, 2, 0] rfl
  have hl := lv_cast hl (congrArg (fun z : Int32 => ([(0, .ref (ad 18)), (1, .ref (ad 19)), (2, .int z)] : List (Nat × Value))) (show 0 = (nI 0) from rfl))
  exact loop_2 (64 + 1) 0 (by omega) (by omega) _ _ _ G hl
theorem zor (x : Int32) : x ||| 0 = x := Int32.or_zero
set_option maxHeartbeats 4000000 in
set_option maxRecDepth 100000 in
theorem c_L_bundles (l : Launch) {D : va_G} {sh : xS} {ad : Nat → Nat} {cI cZ cO : ClassId} {tys : List (ClassId × FieldType)} {t nb nc : Nat} {od S : Nat → Nat} (DL : xDl sh ad cI cZ cO tys nb od) (V : xV) (hI : INV t nb nc od S V) (ht : t ≤ 100000) (s16 : sh 16 = some (fun f => .inl (cI, 40, .inl f))) (h16 : ∀ k, k < nb → V 16 k = nI (S k)) : xMi l yL_bundles wsL_bundles (rmK 5) D sh ad tys V [.ref (ad 0), .ref (ad 16)] 1 V := by
  refine xOfi (cc := cL_bundles) (nL := 9) (ret := some .boolean) (own := RL) (by decide) rfl rfl (Nat.le_of_ble_eq_true rfl) DL.2.2.2.2.2.2.1.2.2 ?_
  intro p e s m args below meth c A ls B G hl
  have hx := B.1.1
  have hb := B.1.2.1
  have Dl := DL.1
  have hT0 := DL.2.2.2.2.2.2.1.1
  have h40 := DL.2.2.2.2.2.2.2.2
  have hl : lv_has ls 9 [(0, .ref (ad 0)), (1, .ref (ad 16))] := hl
  refine lv_iconst (v := 0) hx hb dL_bundles_0 (by decide) ?_
  refine lv_istore_n (lv' := [(2, .int 0), (0, .ref (ad 0)), (1, .ref (ad 16))]) hx hb dL_bundles_1 rfl hl (by decide) rfl (fun ls hl => ?_)
  have loop_2 : ∀ (f i : Nat), i ≤ nb → nb < i + f → ∀ (H : Heap) (locs : List Loc) (ls : Array Slot), xG D sh ad A s.heap V H locs → lv_has ls 9 [(0, .ref (ad 0)), (1, .ref (ad 16)), (2, .int (nI i))] → W p l e (rmK 5) s m args below meth c H locs 0 0 (xQi below D sh ad tys A args s 1 V) (F0 m 2 ls []) := by
    intro f
    induction f with
    | zero => intro i h1 h2; exact absurd h2 (by omega)
    | succ f ih_2 =>
      intro i hi hf H locs ls G hl
      refine lv_iload_n hx hb dL_bundles_2 rfl (lv_at hl 2 rfl) ?_
      refine lv_aload_n hx hb dL_bundles_3 rfl (lv_at hl 0 rfl) ?_
      refine x_callVi (rest := [.int (nI i)]) B G (t_bundles l DL hI (TS.refl V)) (cwV 0 B.1.2.2.2.2 gL_bundles_X2_bundles rfl rfl rfl (by decide +kernel) ⟨Nat.le_of_ble_eq_true rfl, Nat.le_of_ble_eq_true rfl⟩) (d_recv B G Dl) rfl hl.1 rfl (Nat.le_of_ble_eq_true rfl) ⟨Nat.zero_le _, Nat.zero_le _⟩ dL_bundles_4 (fun H locs G => ?_)
      refine lv_icmp_ge (tgt := 258) hx hb dL_bundles_7 (by decide) (fun c_7 => ?_) (fun c_7 => ?_)
      · skip
        have c_7 : nb ≤ i := (nI_leI (a := nb) (b := i) (by omega) (by omega)).mp c_7
        refine lv_iconst (v := 1) hx hb dL_bundles_258 (by decide) ?_
        exact x_zret B G (Or.inr rfl) (rfl) (rfl) dL_bundles_259
      · skip
        have c_7 : ¬ (nb ≤ i) := fun h9 => c_7 ((nI_leI (a := nb) (b := i) (by omega) (by omega)).mpr h9)
        refine lv_aload_n hx hb dL_bundles_10 rfl (lv_at hl 0 rfl) ?_
        refine lv_iload_n hx hb dL_bundles_11 rfl (lv_at hl 2 rfl) ?_
        refine x_callVi (rest := []) B G ((t_fld (D := D) l DL hI (TS.refl V) (k := i) (by omega)).2.2.2.1) (cwV 1 B.1.2.2.2.2 gL_bundles_X2_custodian rfl rfl rfl (by decide +kernel) ⟨Nat.le_of_ble_eq_true rfl, Nat.le_of_ble_eq_true rfl⟩) (d_recv B G Dl) rfl hl.1 rfl (Nat.le_of_ble_eq_true rfl) ⟨Nat.zero_le _, Nat.zero_le _⟩ dL_bundles_12 (fun H locs G => ?_)
        refine lv_istore_n (lv' := [(3, .int (V (20 + 4 * i) 7)), (0, .ref (ad 0)), (1, .ref (ad 16)), (2, .int (nI i))]) hx hb dL_bundles_15 rfl hl (by decide) rfl (fun ls hl => ?_)
        obtain ⟨b1, b2, b3, b4, b5, b6, b7, b8, b9⟩ := hI.bf ht (show i < nb by omega)
        refine lv_iconst (v := 0) hx hb dL_bundles_16 (by decide) ?_
        refine lv_istore (lv' := [(4, .int 0), (3, .int (V (20 + 4 * i) 7)), (0, .ref (ad 0)), (1, .ref (ad 16)), (2, .int (nI i))]) hx hb dL_bundles_17 hl (by decide) rfl (fun ls hl => ?_)
        refine lv_iconst (v := 0) hx hb dL_bundles_19 (by decide) ?_
        refine lv_istore (lv' := [(5, .int 0), (4, .int 0), (3, .int (V (20 + 4 * i) 7)), (0, .ref (ad 0)), (1, .ref (ad 16)), (2, .int (nI i))]) hx hb dL_bundles_20 hl (by decide) rfl (fun ls hl => ?_)
        refine lv_iconst (v := 0) hx hb dL_bundles_22 (by decide) ?_
        refine lv_istore (lv' := [(6, .int 0), (5, .int 0), (4, .int 0), (3, .int (V (20 + 4 * i) 7)), (0, .ref (ad 0)), (1, .ref (ad 16)), (2, .int (nI i))]) hx hb dL_bundles_23 hl (by decide) rfl (fun ls hl => ?_)
        refine lv_iconst (v := 0) hx hb dL_bundles_25 (by decide) ?_
        refine lv_istore (lv' := [(7, .int 0), (6, .int 0), (5, .int 0), (4, .int 0), (3, .int (V (20 + 4 * i) 7)), (0, .ref (ad 0)), (1, .ref (ad 16)), (2, .int (nI i))]) hx hb dL_bundles_26 hl (by decide) rfl (fun ls hl => ?_)
        have loop_28 : ∀ (f j : Nat), j ≤ 8 → 8 < j + f → ∀ (H : Heap) (locs : List Loc) (ls : Array Slot), xG D sh ad A s.heap V H locs → lv_has ls 9 [(0, .ref (ad 0)), (1, .ref (ad 16)), (2, .int (nI i)), (3, .int (V (20 + 4 * i) 7)), (4, .int (vS V (20 + 4 * i) j)), (5, .int (cBits V (20 + 4 * i) j)), (6, .int (vK V (20 + 4 * i) j)), (7, .int (nI j))] → W p l e (rmK 5) s m args below meth c H locs 0 0 (xQi below D sh ad tys A args s 1 V) (F0 m 28 ls []) := by
          intro f
          induction f with
          | zero => intro j h1 h2; exact absurd h2 (by omega)
          | succ f ih_28 =>
            intro j hi hf H locs ls G hl
            refine lv_iload hx hb dL_bundles_28 (lv_at hl 7 rfl) ?_
            refine lv_bipush (v := 8) hx hb dL_bundles_30 (by decide) ?_
            refine lv_icmp_ge (tgt := 104) hx hb dL_bundles_32 (by decide) (fun c_32 => ?_) (fun c_32 => ?_)
            · skip
              have c_32 : 8 ≤ j := (nI_leI (a := 8) (b := j) (by omega) (by omega)).mp c_32
              have e_j : j = 8 := by omega
              subst e_j
              refine lv_aload_n hx hb dL_bundles_104 rfl (lv_at hl 0 rfl) ?_
              refine lv_iload_n hx hb dL_bundles_105 rfl (lv_at hl 2 rfl) ?_
              refine x_callVi (rest := []) B G ((t_fld (D := D) l DL hI (TS.refl V) (k := i) (by omega)).1) (cwV 1 B.1.2.2.2.2 gL_bundles_X2_endOf rfl rfl rfl (by decide +kernel) ⟨Nat.le_of_ble_eq_true rfl, Nat.le_of_ble_eq_true rfl⟩) (d_recv B G Dl) rfl hl.1 rfl (Nat.le_of_ble_eq_true rfl) ⟨Nat.zero_le _, Nat.zero_le _⟩ dL_bundles_106 (fun H locs G => ?_)
              refine lv_aload_n hx hb dL_bundles_109 rfl (lv_at hl 0 rfl) ?_
              refine x_callVi (rest := [.int (V (20 + 4 * i) 3)]) B G (t_clock l DL hI (TS.refl V)) (cwV 0 B.1.2.2.2.2 gL_bundles_X2_clock rfl rfl rfl (by decide +kernel) ⟨Nat.le_of_ble_eq_true rfl, Nat.le_of_ble_eq_true rfl⟩) (d_recv B G Dl) rfl hl.1 rfl (Nat.le_of_ble_eq_true rfl) ⟨Nat.zero_le _, Nat.zero_le _⟩ dL_bundles_110 (fun H locs G => ?_)
              refine lv_icmp_gt (tgt := 120) hx hb dL_bundles_113 (by decide) (fun c_113 => ?_) (fun c_113 => ?_)
              · skip
                refine lv_iconst (v := 0) hx hb dL_bundles_120 (by decide) ?_
                refine lv_istore (lv' := [(7, .int 0), (0, .ref (ad 0)), (1, .ref (ad 16)), (2, .int (nI i)), (3, .int (V (20 + 4 * i) 7)), (4, .int (vS V (20 + 4 * i) 8)), (5, .int (cBits V (20 + 4 * i) 8)), (6, .int (vK V (20 + 4 * i) 8))]) hx hb dL_bundles_121 hl (by decide) rfl (fun ls hl => ?_)
                refine lv_aload_n hx hb dL_bundles_123 rfl (lv_at hl 1 rfl) ?_
                refine lv_iload_n hx hb dL_bundles_124 rfl (lv_at hl 3 rfl) ?_
                refine x_callVi (rest := []) B G ((t_fld (D := D) l DL hI (TS.refl V) (k := i) (by omega)).2.1) (cwV 1 B.1.2.2.2.2 gL_bundles_X2_deliveredAt rfl rfl rfl (by decide +kernel) ⟨Nat.le_of_ble_eq_true rfl, Nat.le_of_ble_eq_true rfl⟩) (d_recv B G Dl) rfl hl.1 rfl (Nat.le_of_ble_eq_true rfl) ⟨Nat.zero_le _, Nat.zero_le _⟩ dL_bundles_125 (fun H locs G => ?_)
                refine lv_if_lt (tgt := 135) hx hb dL_bundles_128 (by decide) (fun c_128 => ?_) (fun c_128 => ?_)
                · skip
                  refine lv_iconst (v := 0) hx hb dL_bundles_135 (by decide) ?_
                  refine lv_istore (lv' := [(8, .int 0), (7, .int 0), (0, .ref (ad 0)), (1, .ref (ad 16)), (2, .int (nI i)), (3, .int (V (20 + 4 * i) 7)), (4, .int (vS V (20 + 4 * i) 8)), (5, .int (cBits V (20 + 4 * i) 8)), (6, .int (vK V (20 + 4 * i) 8))]) hx hb dL_bundles_136 hl (by decide) rfl (fun ls hl => ?_)
                  refine lv_iload hx hb dL_bundles_138 (lv_at hl 7 rfl) ?_
                  refine lv_aload_n hx hb dL_bundles_140 rfl (lv_at hl 2 rfl) ?_
                  refine lv_iload_n hx hb dL_bundles_141 rfl (lv_at hl 4 rfl) ?_
                  refine x_callVi (rest := [.int (cBits V (20 + 4 * i) 8)]) B G ((t_fld (D := D) l DL hI (TS.refl V) (k := i) (by omega)).2.2.2.2) (cwV 1 B.1.2.2.2.2 gL_bundles_X2_holders rfl rfl rfl (by decide +kernel) ⟨Nat.le_of_ble_eq_true rfl, Nat.le_of_ble_eq_true rfl⟩) (d_recv B G Dl) rfl hl.1 rfl (Nat.le_of_ble_eq_true rfl) ⟨Nat.zero_le _, Nat.zero_le _⟩ dL_bundles_142 (fun H locs G => ?_)
                  refine lv_icmp_ne (tgt := 191) hx hb dL_bundles_145 (by decide) (fun c_145 => ?_) (fun c_145 => ?_)
                  · exact False.elim (c_145 rfl)
                  · skip
                    refine lv_iload hx hb dL_bundles_148 (lv_at hl 6 rfl) ?_
                    refine lv_aload_n hx hb dL_bundles_150 rfl (lv_at hl 3 rfl) ?_
                    refine lv_iload_n hx hb dL_bundles_151 rfl (lv_at hl 4 rfl) ?_
                    refine x_ald B G 16 s16 0 hT0 i (show i < 40 from by omega) rfl (by decide) dL_bundles_152 ?_
                    refine lv_icmp_gt (tgt := 191) hx hb dL_bundles_153 (by decide) (fun c_153 => ?_) (fun c_153 => ?_)
                    · exact False.elim (absurd (i_tr b2 (by rw [h16 i (by omega)]; exact i_rf _)) (i_nle.mpr c_153))
                    · skip
                      refine lv_iload hx hb dL_bundles_156 (lv_at hl 8 rfl) ?_
                      refine lv_iload hx hb dL_bundles_158 (lv_at hl 0 rfl) ?_
                      refine lv_icmp_ne (tgt := 191) hx hb dL_bundles_160 (by decide) (fun c_160 => ?_) (fun c_160 => ?_)
                      · exact False.elim (c_160 (by rw [b3]; exact if_pos c_128))
                      · skip
                        refine lv_iload_n hx hb dL_bundles_163 rfl (lv_at hl 5 rfl) ?_
                        refine lv_if_lt (tgt := 176) hx hb dL_bundles_164 (by decide) (fun c_164 => ?_) (fun c_164 => ?_)
                        · skip
                          refine lv_iload hx hb dL_bundles_176 (lv_at hl 1 rfl) ?_
                          refine lv_if_eq (tgt := 193) hx hb dL_bundles_178 (by decide) (fun c_178 => ?_) (fun c_178 => ?_)
                          · skip
                            refine lv_iload hx hb dL_bundles_193 (lv_at hl 0 rfl) ?_
                            refine lv_if_ne (tgt := 207) hx hb dL_bundles_195 (by decide) (fun c_195 => ?_) (fun c_195 => ?_)
                            · exact False.elim (c_195 (by decide))
                            · skip
                              refine lv_iload hx hb dL_bundles_198 (lv_at hl 1 rfl) ?_
                              refine lv_if_ne (tgt := 207) hx hb dL_bundles_200 (by decide) (fun c_200 => ?_) (fun c_200 => ?_)
                              · exact False.elim (c_200 (by decide))
                              · skip
                                refine lv_iload_n hx hb dL_bundles_203 rfl (lv_at hl 5 rfl) ?_
                                refine lv_if_lt (tgt := 250) hx hb dL_bundles_204 (by decide) (fun c_204 => ?_) (fun c_204 => ?_)
                                · exact False.elim (absurd (b6 c_128 (i_nle.mpr c_113)) (i_nle.mpr c_204))
                                · skip
                                  refine lv_aload_n hx hb dL_bundles_207 rfl (lv_at hl 2 rfl) ?_
                                  refine lv_iload_n hx hb dL_bundles_208 rfl (lv_at hl 4 rfl) ?_
                                  refine x_callVi (rest := []) B G ((t_fld (D := D) l DL hI (TS.refl V) (k := i) (by omega)).2.2.1) (cwV 1 B.1.2.2.2.2 gL_bundles_X2_hops rfl rfl rfl (by decide +kernel) ⟨Nat.le_of_ble_eq_true rfl, Nat.le_of_ble_eq_true rfl⟩) (d_recv B G Dl) rfl hl.1 rfl (Nat.le_of_ble_eq_true rfl) ⟨Nat.zero_le _, Nat.zero_le _⟩ dL_bundles_209 (fun H locs G => ?_)
                                  refine lv_if_le (tgt := 219) hx hb dL_bundles_212 (by decide) (fun c_212 => ?_) (fun c_212 => ?_)
                                  · skip
                                    refine lv_iconst (v := 0) hx hb dL_bundles_219 (by decide) ?_
                                    refine lv_iload hx hb dL_bundles_220 (lv_at hl 0 rfl) ?_
                                    refine lv_icmp_ne (tgt := 250) hx hb dL_bundles_222 (by decide) (fun c_222 => ?_) (fun c_222 => ?_)
                                    · exact False.elim (c_222 rfl)
                                    · skip
                                      have c_222 : 0 = 0 := (nI_eq (a := 0) (b := 0) (by omega) (by omega)).mp c_222
                                      refine lv_aload_n hx hb dL_bundles_225 rfl (lv_at hl 2 rfl) ?_
                                      refine lv_iload_n hx hb dL_bundles_226 rfl (lv_at hl 4 rfl) ?_
                                      refine x_callVi (rest := []) B G ((t_fld (D := D) l DL hI (TS.refl V) (k := i) (by omega)).2.1) (cwV 1 B.1.2.2.2.2 gL_bundles_X2_deliveredAt rfl rfl rfl (by decide +kernel) ⟨Nat.le_of_ble_eq_true rfl, Nat.le_of_ble_eq_true rfl⟩) (d_recv B G Dl) rfl hl.1 rfl (Nat.le_of_ble_eq_true rfl) ⟨Nat.zero_le _, Nat.zero_le _⟩ dL_bundles_227 (fun H locs G => ?_)
                                      refine lv_aload_n hx hb dL_bundles_230 rfl (lv_at hl 2 rfl) ?_
                                      refine lv_iload_n hx hb dL_bundles_231 rfl (lv_at hl 4 rfl) ?_
                                      refine x_callVi (rest := [.int (V (20 + 4 * i) 8)]) B G ((t_fld (D := D) l DL hI (TS.refl V) (k := i) (by omega)).1) (cwV 1 B.1.2.2.2.2 gL_bundles_X2_endOf rfl rfl rfl (by decide +kernel) ⟨Nat.le_of_ble_eq_true rfl, Nat.le_of_ble_eq_true rfl⟩) (d_recv B G Dl) rfl hl.1 rfl (Nat.le_of_ble_eq_true rfl) ⟨Nat.zero_le _, Nat.zero_le _⟩ dL_bundles_232 (fun H locs G => ?_)
                                      refine lv_icmp_ge (tgt := 250) hx hb dL_bundles_235 (by decide) (fun c_235 => ?_) (fun c_235 => ?_)
                                      · exact False.elim (absurd b8 (i_nlt.mpr c_235))
                                      · skip
                                        refine lv_aload_n hx hb dL_bundles_238 rfl (lv_at hl 2 rfl) ?_
                                        refine lv_iload_n hx hb dL_bundles_239 rfl (lv_at hl 4 rfl) ?_
                                        refine x_callVi (rest := []) B G ((t_fld (D := D) l DL hI (TS.refl V) (k := i) (by omega)).2.1) (cwV 1 B.1.2.2.2.2 gL_bundles_X2_deliveredAt rfl rfl rfl (by decide +kernel) ⟨Nat.le_of_ble_eq_true rfl, Nat.le_of_ble_eq_true rfl⟩) (d_recv B G Dl) rfl hl.1 rfl (Nat.le_of_ble_eq_true rfl) ⟨Nat.zero_le _, Nat.zero_le _⟩ dL_bundles_240 (fun H locs G => ?_)
                                        refine lv_aload_n hx hb dL_bundles_243 rfl (lv_at hl 2 rfl) ?_
                                        refine x_callVi (rest := [.int (V (20 + 4 * i) 8)]) B G (t_clock l DL hI (TS.refl V)) (cwV 0 B.1.2.2.2.2 gL_bundles_X2_clock rfl rfl rfl (by decide +kernel) ⟨Nat.le_of_ble_eq_true rfl, Nat.le_of_ble_eq_true rfl⟩) (d_recv B G Dl) rfl hl.1 rfl (Nat.le_of_ble_eq_true rfl) ⟨Nat.zero_le _, Nat.zero_le _⟩ dL_bundles_244 (fun H locs G => ?_)
                                        refine lv_icmp_le (tgt := 252) hx hb dL_bundles_247 (by decide) (fun c_247 => ?_) (fun c_247 => ?_)
                                        · skip
                                          refine lv_iinc (v := nI (i + 1)) (lv' := [(2, .int (nI (i + 1))), (8, .int 0), (7, .int 0), (0, .ref (ad 0)), (1, .ref (ad 16)), (3, .int (V (20 + 4 * i) 7)), (4, .int (vS V (20 + 4 * i) 8)), (5, .int (cBits V (20 + 4 * i) 8)), (6, .int (vK V (20 + 4 * i) 8))]) hx hb dL_bundles_252 hl (k := 4) rfl (nI_add i 1) (by decide) rfl (fun ls hl => ?_)
                                          refine lv_goto (tgt := 2) hx hb dL_bundles_255 (by decide) ?_
                                          have hl := lv_sub (l' := [(0, .ref (ad 0)), (1, .ref (ad 16)), (2, .int (nI (i + 1)))]) hl [3, 4, 0] rfl
                                          exact ih_2 (i + 1) (by omega) (by omega) _ _ _ G hl
                                        · exact False.elim (c_247 b9)
                                  · skip
                                    refine lv_iconst (v := 1) hx hb dL_bundles_215 (by decide) ?_
                                    refine lv_goto (tgt := 220) hx hb dL_bundles_216 (by decide) ?_
                                    refine lv_iload hx hb dL_bundles_220 (lv_at hl 0 rfl) ?_
                                    exact absurd c_128 (b7.mp (i_nle.mp c_212))
                          · exact False.elim (c_178 (by decide))
                        · skip
                          refine lv_iload hx hb dL_bundles_167 (lv_at hl 7 rfl) ?_
                          refine lv_iload_n hx hb dL_bundles_169 rfl (lv_at hl 5 rfl) ?_
                          refine lv_ishr hx hb dL_bundles_170 ?_
                          refine lv_iconst (v := 1) hx hb dL_bundles_171 (by decide) ?_
                          refine lv_iand hx hb dL_bundles_172 ?_
                          refine lv_if_eq (tgt := 191) hx hb dL_bundles_173 (by decide) (fun c_173 => ?_) (fun c_173 => ?_)
                          · exact False.elim (b4 (i_nlt.mp c_164) c_173)
                          · skip
                            refine lv_iload hx hb dL_bundles_176 (lv_at hl 1 rfl) ?_
                            refine lv_if_eq (tgt := 193) hx hb dL_bundles_178 (by decide) (fun c_178 => ?_) (fun c_178 => ?_)
                            · skip
                              refine lv_iload hx hb dL_bundles_193 (lv_at hl 0 rfl) ?_
                              refine lv_if_ne (tgt := 207) hx hb dL_bundles_195 (by decide) (fun c_195 => ?_) (fun c_195 => ?_)
                              · exact False.elim (c_195 (by decide))
                              · skip
                                refine lv_iload hx hb dL_bundles_198 (lv_at hl 1 rfl) ?_
                                refine lv_if_ne (tgt := 207) hx hb dL_bundles_200 (by decide) (fun c_200 => ?_) (fun c_200 => ?_)
                                · exact False.elim (c_200 (by decide))
                                · skip
                                  refine lv_iload_n hx hb dL_bundles_203 rfl (lv_at hl 5 rfl) ?_
                                  refine lv_if_lt (tgt := 250) hx hb dL_bundles_204 (by decide) (fun c_204 => ?_) (fun c_204 => ?_)
                                  · exact False.elim (absurd (b6 c_128 (i_nle.mpr c_113)) (i_nle.mpr c_204))
                                  · skip
                                    refine lv_aload_n hx hb dL_bundles_207 rfl (lv_at hl 2 rfl) ?_
                                    refine lv_iload_n hx hb dL_bundles_208 rfl (lv_at hl 4 rfl) ?_
                                    refine x_callVi (rest := []) B G ((t_fld (D := D) l DL hI (TS.refl V) (k := i) (by omega)).2.2.1) (cwV 1 B.1.2.2.2.2 gL_bundles_X2_hops rfl rfl rfl (by decide +kernel) ⟨Nat.le_of_ble_eq_true rfl, Nat.le_of_ble_eq_true rfl⟩) (d_recv B G Dl) rfl hl.1 rfl (Nat.le_of_ble_eq_true rfl) ⟨Nat.zero_le _, Nat.zero_le _⟩ dL_bundles_209 (fun H locs G => ?_)
                                    refine lv_if_le (tgt := 219) hx hb dL_bundles_212 (by decide) (fun c_212 => ?_) (fun c_212 => ?_)
                                    · skip
                                      refine lv_iconst (v := 0) hx hb dL_bundles_219 (by decide) ?_
                                      refine lv_iload hx hb dL_bundles_220 (lv_at hl 0 rfl) ?_
                                      refine lv_icmp_ne (tgt := 250) hx hb dL_bundles_222 (by decide) (fun c_222 => ?_) (fun c_222 => ?_)
                                      · exact False.elim (c_222 rfl)
                                      · skip
                                        have c_222 : 0 = 0 := (nI_eq (a := 0) (b := 0) (by omega) (by omega)).mp c_222
                                        refine lv_aload_n hx hb dL_bundles_225 rfl (lv_at hl 2 rfl) ?_
                                        refine lv_iload_n hx hb dL_bundles_226 rfl (lv_at hl 4 rfl) ?_
                                        refine x_callVi (rest := []) B G ((t_fld (D := D) l DL hI (TS.refl V) (k := i) (by omega)).2.1) (cwV 1 B.1.2.2.2.2 gL_bundles_X2_deliveredAt rfl rfl rfl (by decide +kernel) ⟨Nat.le_of_ble_eq_true rfl, Nat.le_of_ble_eq_true rfl⟩) (d_recv B G Dl) rfl hl.1 rfl (Nat.le_of_ble_eq_true rfl) ⟨Nat.zero_le _, Nat.zero_le _⟩ dL_bundles_227 (fun H locs G => ?_)
                                        refine lv_aload_n hx hb dL_bundles_230 rfl (lv_at hl 2 rfl) ?_
                                        refine lv_iload_n hx hb dL_bundles_231 rfl (lv_at hl 4 rfl) ?_
                                        refine x_callVi (rest := [.int (V (20 + 4 * i) 8)]) B G ((t_fld (D := D) l DL hI (TS.refl V) (k := i) (by omega)).1) (cwV 1 B.1.2.2.2.2 gL_bundles_X2_endOf rfl rfl rfl (by decide +kernel) ⟨Nat.le_of_ble_eq_true rfl, Nat.le_of_ble_eq_true rfl⟩) (d_recv B G Dl) rfl hl.1 rfl (Nat.le_of_ble_eq_true rfl) ⟨Nat.zero_le _, Nat.zero_le _⟩ dL_bundles_232 (fun H locs G => ?_)
                                        refine lv_icmp_ge (tgt := 250) hx hb dL_bundles_235 (by decide) (fun c_235 => ?_) (fun c_235 => ?_)
                                        · exact False.elim (absurd b8 (i_nlt.mpr c_235))
                                        · skip
                                          refine lv_aload_n hx hb dL_bundles_238 rfl (lv_at hl 2 rfl) ?_
                                          refine lv_iload_n hx hb dL_bundles_239 rfl (lv_at hl 4 rfl) ?_
                                          refine x_callVi (rest := []) B G ((t_fld (D := D) l DL hI (TS.refl V) (k := i) (by omega)).2.1) (cwV 1 B.1.2.2.2.2 gL_bundles_X2_deliveredAt rfl rfl rfl (by decide +kernel) ⟨Nat.le_of_ble_eq_true rfl, Nat.le_of_ble_eq_true rfl⟩) (d_recv B G Dl) rfl hl.1 rfl (Nat.le_of_ble_eq_true rfl) ⟨Nat.zero_le _, Nat.zero_le _⟩ dL_bundles_240 (fun H locs G => ?_)
                                          refine lv_aload_n hx hb dL_bundles_243 rfl (lv_at hl 2 rfl) ?_
                                          refine x_callVi (rest := [.int (V (20 + 4 * i) 8)]) B G (t_clock l DL hI (TS.refl V)) (cwV 0 B.1.2.2.2.2 gL_bundles_X2_clock rfl rfl rfl (by decide +kernel) ⟨Nat.le_of_ble_eq_true rfl, Nat.le_of_ble_eq_true rfl⟩) (d_recv B G Dl) rfl hl.1 rfl (Nat.le_of_ble_eq_true rfl) ⟨Nat.zero_le _, Nat.zero_le _⟩ dL_bundles_244 (fun H locs G => ?_)
                                          refine lv_icmp_le (tgt := 252) hx hb dL_bundles_247 (by decide) (fun c_247 => ?_) (fun c_247 => ?_)
                                          · skip
                                            refine lv_iinc (v := nI (i + 1)) (lv' := [(2, .int (nI (i + 1))), (8, .int 0), (7, .int 0), (0, .ref (ad 0)), (1, .ref (ad 16)), (3, .int (V (20 + 4 * i) 7)), (4, .int (vS V (20 + 4 * i) 8)), (5, .int (cBits V (20 + 4 * i) 8)), (6, .int (vK V (20 + 4 * i) 8))]) hx hb dL_bundles_252 hl (k := 4) rfl (nI_add i 1) (by decide) rfl (fun ls hl => ?_)
                                            refine lv_goto (tgt := 2) hx hb dL_bundles_255 (by decide) ?_
                                            have hl := lv_sub (l' := [(0, .ref (ad 0)), (1, .ref (ad 16)), (2, .int (nI (i + 1)))]) hl [3, 4, 0] rfl
                                            exact ih_2 (i + 1) (by omega) (by omega) _ _ _ G hl
                                          · exact False.elim (c_247 b9)
                                    · skip
                                      refine lv_iconst (v := 1) hx hb dL_bundles_215 (by decide) ?_
                                      refine lv_goto (tgt := 220) hx hb dL_bundles_216 (by decide) ?_
                                      refine lv_iload hx hb dL_bundles_220 (lv_at hl 0 rfl) ?_
                                      exact absurd c_128 (b7.mp (i_nle.mp c_212))
                            · exact False.elim (c_178 (by decide))
                · skip
                  refine lv_iconst (v := 1) hx hb dL_bundles_131 (by decide) ?_
                  refine lv_goto (tgt := 136) hx hb dL_bundles_132 (by decide) ?_
                  refine lv_istore (lv' := [(8, .int 1), (7, .int 0), (0, .ref (ad 0)), (1, .ref (ad 16)), (2, .int (nI i)), (3, .int (V (20 + 4 * i) 7)), (4, .int (vS V (20 + 4 * i) 8)), (5, .int (cBits V (20 + 4 * i) 8)), (6, .int (vK V (20 + 4 * i) 8))]) hx hb dL_bundles_136 hl (by decide) rfl (fun ls hl => ?_)
                  refine lv_iload hx hb dL_bundles_138 (lv_at hl 7 rfl) ?_
                  refine lv_aload_n hx hb dL_bundles_140 rfl (lv_at hl 2 rfl) ?_
                  refine lv_iload_n hx hb dL_bundles_141 rfl (lv_at hl 4 rfl) ?_
                  refine x_callVi (rest := [.int (cBits V (20 + 4 * i) 8)]) B G ((t_fld (D := D) l DL hI (TS.refl V) (k := i) (by omega)).2.2.2.2) (cwV 1 B.1.2.2.2.2 gL_bundles_X2_holders rfl rfl rfl (by decide +kernel) ⟨Nat.le_of_ble_eq_true rfl, Nat.le_of_ble_eq_true rfl⟩) (d_recv B G Dl) rfl hl.1 rfl (Nat.le_of_ble_eq_true rfl) ⟨Nat.zero_le _, Nat.zero_le _⟩ dL_bundles_142 (fun H locs G => ?_)
                  refine lv_icmp_ne (tgt := 191) hx hb dL_bundles_145 (by decide) (fun c_145 => ?_) (fun c_145 => ?_)
                  · exact False.elim (c_145 rfl)
                  · skip
                    refine lv_iload hx hb dL_bundles_148 (lv_at hl 6 rfl) ?_
                    refine lv_aload_n hx hb dL_bundles_150 rfl (lv_at hl 3 rfl) ?_
                    refine lv_iload_n hx hb dL_bundles_151 rfl (lv_at hl 4 rfl) ?_
                    refine x_ald B G 16 s16 0 hT0 i (show i < 40 from by omega) rfl (by decide) dL_bundles_152 ?_
                    refine lv_icmp_gt (tgt := 191) hx hb dL_bundles_153 (by decide) (fun c_153 => ?_) (fun c_153 => ?_)
                    · exact False.elim (absurd (i_tr b2 (by rw [h16 i (by omega)]; exact i_rf _)) (i_nle.mpr c_153))
                    · skip
                      refine lv_iload hx hb dL_bundles_156 (lv_at hl 8 rfl) ?_
                      refine lv_iload hx hb dL_bundles_158 (lv_at hl 0 rfl) ?_
                      refine lv_icmp_ne (tgt := 191) hx hb dL_bundles_160 (by decide) (fun c_160 => ?_) (fun c_160 => ?_)
                      · exact False.elim (c_160 (by rw [b3]; exact if_neg c_128))
                      · skip
                        refine lv_iload_n hx hb dL_bundles_163 rfl (lv_at hl 5 rfl) ?_
                        refine lv_if_lt (tgt := 176) hx hb dL_bundles_164 (by decide) (fun c_164 => ?_) (fun c_164 => ?_)
                        · skip
                          refine lv_iload hx hb dL_bundles_176 (lv_at hl 1 rfl) ?_
                          refine lv_if_eq (tgt := 193) hx hb dL_bundles_178 (by decide) (fun c_178 => ?_) (fun c_178 => ?_)
                          · skip
                            refine lv_iload hx hb dL_bundles_193 (lv_at hl 0 rfl) ?_
                            refine lv_if_ne (tgt := 207) hx hb dL_bundles_195 (by decide) (fun c_195 => ?_) (fun c_195 => ?_)
                            · skip
                              refine lv_aload_n hx hb dL_bundles_207 rfl (lv_at hl 2 rfl) ?_
                              refine lv_iload_n hx hb dL_bundles_208 rfl (lv_at hl 4 rfl) ?_
                              refine x_callVi (rest := []) B G ((t_fld (D := D) l DL hI (TS.refl V) (k := i) (by omega)).2.2.1) (cwV 1 B.1.2.2.2.2 gL_bundles_X2_hops rfl rfl rfl (by decide +kernel) ⟨Nat.le_of_ble_eq_true rfl, Nat.le_of_ble_eq_true rfl⟩) (d_recv B G Dl) rfl hl.1 rfl (Nat.le_of_ble_eq_true rfl) ⟨Nat.zero_le _, Nat.zero_le _⟩ dL_bundles_209 (fun H locs G => ?_)
                              refine lv_if_le (tgt := 219) hx hb dL_bundles_212 (by decide) (fun c_212 => ?_) (fun c_212 => ?_)
                              · skip
                                refine lv_iconst (v := 0) hx hb dL_bundles_219 (by decide) ?_
                                refine lv_iload hx hb dL_bundles_220 (lv_at hl 0 rfl) ?_
                                exact absurd (b7.mpr c_128) (i_nlt.mpr c_212)
                              · skip
                                refine lv_iconst (v := 1) hx hb dL_bundles_215 (by decide) ?_
                                refine lv_goto (tgt := 220) hx hb dL_bundles_216 (by decide) ?_
                                refine lv_iload hx hb dL_bundles_220 (lv_at hl 0 rfl) ?_
                                refine lv_icmp_ne (tgt := 250) hx hb dL_bundles_222 (by decide) (fun c_222 => ?_) (fun c_222 => ?_)
                                · exact False.elim (c_222 rfl)
                                · skip
                                  have c_222 : 1 = 1 := (nI_eq (a := 1) (b := 1) (by omega) (by omega)).mp c_222
                                  refine lv_aload_n hx hb dL_bundles_225 rfl (lv_at hl 2 rfl) ?_
                                  refine lv_iload_n hx hb dL_bundles_226 rfl (lv_at hl 4 rfl) ?_
                                  refine x_callVi (rest := []) B G ((t_fld (D := D) l DL hI (TS.refl V) (k := i) (by omega)).2.1) (cwV 1 B.1.2.2.2.2 gL_bundles_X2_deliveredAt rfl rfl rfl (by decide +kernel) ⟨Nat.le_of_ble_eq_true rfl, Nat.le_of_ble_eq_true rfl⟩) (d_recv B G Dl) rfl hl.1 rfl (Nat.le_of_ble_eq_true rfl) ⟨Nat.zero_le _, Nat.zero_le _⟩ dL_bundles_227 (fun H locs G => ?_)
                                  refine lv_aload_n hx hb dL_bundles_230 rfl (lv_at hl 2 rfl) ?_
                                  refine lv_iload_n hx hb dL_bundles_231 rfl (lv_at hl 4 rfl) ?_
                                  refine x_callVi (rest := [.int (V (20 + 4 * i) 8)]) B G ((t_fld (D := D) l DL hI (TS.refl V) (k := i) (by omega)).1) (cwV 1 B.1.2.2.2.2 gL_bundles_X2_endOf rfl rfl rfl (by decide +kernel) ⟨Nat.le_of_ble_eq_true rfl, Nat.le_of_ble_eq_true rfl⟩) (d_recv B G Dl) rfl hl.1 rfl (Nat.le_of_ble_eq_true rfl) ⟨Nat.zero_le _, Nat.zero_le _⟩ dL_bundles_232 (fun H locs G => ?_)
                                  refine lv_icmp_ge (tgt := 250) hx hb dL_bundles_235 (by decide) (fun c_235 => ?_) (fun c_235 => ?_)
                                  · exact False.elim (absurd b8 (i_nlt.mpr c_235))
                                  · skip
                                    refine lv_aload_n hx hb dL_bundles_238 rfl (lv_at hl 2 rfl) ?_
                                    refine lv_iload_n hx hb dL_bundles_239 rfl (lv_at hl 4 rfl) ?_
                                    refine x_callVi (rest := []) B G ((t_fld (D := D) l DL hI (TS.refl V) (k := i) (by omega)).2.1) (cwV 1 B.1.2.2.2.2 gL_bundles_X2_deliveredAt rfl rfl rfl (by decide +kernel) ⟨Nat.le_of_ble_eq_true rfl, Nat.le_of_ble_eq_true rfl⟩) (d_recv B G Dl) rfl hl.1 rfl (Nat.le_of_ble_eq_true rfl) ⟨Nat.zero_le _, Nat.zero_le _⟩ dL_bundles_240 (fun H locs G => ?_)
                                    refine lv_aload_n hx hb dL_bundles_243 rfl (lv_at hl 2 rfl) ?_
                                    refine x_callVi (rest := [.int (V (20 + 4 * i) 8)]) B G (t_clock l DL hI (TS.refl V)) (cwV 0 B.1.2.2.2.2 gL_bundles_X2_clock rfl rfl rfl (by decide +kernel) ⟨Nat.le_of_ble_eq_true rfl, Nat.le_of_ble_eq_true rfl⟩) (d_recv B G Dl) rfl hl.1 rfl (Nat.le_of_ble_eq_true rfl) ⟨Nat.zero_le _, Nat.zero_le _⟩ dL_bundles_244 (fun H locs G => ?_)
                                    refine lv_icmp_le (tgt := 252) hx hb dL_bundles_247 (by decide) (fun c_247 => ?_) (fun c_247 => ?_)
                                    · skip
                                      refine lv_iinc (v := nI (i + 1)) (lv' := [(2, .int (nI (i + 1))), (8, .int 1), (7, .int 0), (0, .ref (ad 0)), (1, .ref (ad 16)), (3, .int (V (20 + 4 * i) 7)), (4, .int (vS V (20 + 4 * i) 8)), (5, .int (cBits V (20 + 4 * i) 8)), (6, .int (vK V (20 + 4 * i) 8))]) hx hb dL_bundles_252 hl (k := 4) rfl (nI_add i 1) (by decide) rfl (fun ls hl => ?_)
                                      refine lv_goto (tgt := 2) hx hb dL_bundles_255 (by decide) ?_
                                      have hl := lv_sub (l' := [(0, .ref (ad 0)), (1, .ref (ad 16)), (2, .int (nI (i + 1)))]) hl [3, 4, 0] rfl
                                      exact ih_2 (i + 1) (by omega) (by omega) _ _ _ G hl
                                    · exact False.elim (c_247 b9)
                            · exact False.elim (absurd c_195 (by decide))
                          · exact False.elim (c_178 (by decide))
                        · skip
                          refine lv_iload hx hb dL_bundles_167 (lv_at hl 7 rfl) ?_
                          refine lv_iload_n hx hb dL_bundles_169 rfl (lv_at hl 5 rfl) ?_
                          refine lv_ishr hx hb dL_bundles_170 ?_
                          refine lv_iconst (v := 1) hx hb dL_bundles_171 (by decide) ?_
                          refine lv_iand hx hb dL_bundles_172 ?_
                          refine lv_if_eq (tgt := 191) hx hb dL_bundles_173 (by decide) (fun c_173 => ?_) (fun c_173 => ?_)
                          · exact False.elim (b4 (i_nlt.mp c_164) c_173)
                          · skip
                            refine lv_iload hx hb dL_bundles_176 (lv_at hl 1 rfl) ?_
                            refine lv_if_eq (tgt := 193) hx hb dL_bundles_178 (by decide) (fun c_178 => ?_) (fun c_178 => ?_)
                            · skip
                              refine lv_iload hx hb dL_bundles_193 (lv_at hl 0 rfl) ?_
                              refine lv_if_ne (tgt := 207) hx hb dL_bundles_195 (by decide) (fun c_195 => ?_) (fun c_195 => ?_)
                              · skip
                                refine lv_aload_n hx hb dL_bundles_207 rfl (lv_at hl 2 rfl) ?_
                                refine lv_iload_n hx hb dL_bundles_208 rfl (lv_at hl 4 rfl) ?_
                                refine x_callVi (rest := []) B G ((t_fld (D := D) l DL hI (TS.refl V) (k := i) (by omega)).2.2.1) (cwV 1 B.1.2.2.2.2 gL_bundles_X2_hops rfl rfl rfl (by decide +kernel) ⟨Nat.le_of_ble_eq_true rfl, Nat.le_of_ble_eq_true rfl⟩) (d_recv B G Dl) rfl hl.1 rfl (Nat.le_of_ble_eq_true rfl) ⟨Nat.zero_le _, Nat.zero_le _⟩ dL_bundles_209 (fun H locs G => ?_)
                                refine lv_if_le (tgt := 219) hx hb dL_bundles_212 (by decide) (fun c_212 => ?_) (fun c_212 => ?_)
                                · skip
                                  refine lv_iconst (v := 0) hx hb dL_bundles_219 (by decide) ?_
                                  refine lv_iload hx hb dL_bundles_220 (lv_at hl 0 rfl) ?_
                                  exact absurd (b7.mpr c_128) (i_nlt.mpr c_212)
                                · skip
                                  refine lv_iconst (v := 1) hx hb dL_bundles_215 (by decide) ?_
                                  refine lv_goto (tgt := 220) hx hb dL_bundles_216 (by decide) ?_
                                  refine lv_iload hx hb dL_bundles_220 (lv_at hl 0 rfl) ?_
                                  refine lv_icmp_ne (tgt := 250) hx hb dL_bundles_222 (by decide) (fun c_222 => ?_) (fun c_222 => ?_)
                                  · exact False.elim (c_222 rfl)
                                  · skip
                                    have c_222 : 1 = 1 := (nI_eq (a := 1) (b := 1) (by omega) (by omega)).mp c_222
                                    refine lv_aload_n hx hb dL_bundles_225 rfl (lv_at hl 2 rfl) ?_
                                    refine lv_iload_n hx hb dL_bundles_226 rfl (lv_at hl 4 rfl) ?_
                                    refine x_callVi (rest := []) B G ((t_fld (D := D) l DL hI (TS.refl V) (k := i) (by omega)).2.1) (cwV 1 B.1.2.2.2.2 gL_bundles_X2_deliveredAt rfl rfl rfl (by decide +kernel) ⟨Nat.le_of_ble_eq_true rfl, Nat.le_of_ble_eq_true rfl⟩) (d_recv B G Dl) rfl hl.1 rfl (Nat.le_of_ble_eq_true rfl) ⟨Nat.zero_le _, Nat.zero_le _⟩ dL_bundles_227 (fun H locs G => ?_)
                                    refine lv_aload_n hx hb dL_bundles_230 rfl (lv_at hl 2 rfl) ?_
                                    refine lv_iload_n hx hb dL_bundles_231 rfl (lv_at hl 4 rfl) ?_
                                    refine x_callVi (rest := [.int (V (20 + 4 * i) 8)]) B G ((t_fld (D := D) l DL hI (TS.refl V) (k := i) (by omega)).1) (cwV 1 B.1.2.2.2.2 gL_bundles_X2_endOf rfl rfl rfl (by decide +kernel) ⟨Nat.le_of_ble_eq_true rfl, Nat.le_of_ble_eq_true rfl⟩) (d_recv B G Dl) rfl hl.1 rfl (Nat.le_of_ble_eq_true rfl) ⟨Nat.zero_le _, Nat.zero_le _⟩ dL_bundles_232 (fun H locs G => ?_)
                                    refine lv_icmp_ge (tgt := 250) hx hb dL_bundles_235 (by decide) (fun c_235 => ?_) (fun c_235 => ?_)
                                    · exact False.elim (absurd b8 (i_nlt.mpr c_235))
                                    · skip
                                      refine lv_aload_n hx hb dL_bundles_238 rfl (lv_at hl 2 rfl) ?_
                                      refine lv_iload_n hx hb dL_bundles_239 rfl (lv_at hl 4 rfl) ?_
                                      refine x_callVi (rest := []) B G ((t_fld (D := D) l DL hI (TS.refl V) (k := i) (by omega)).2.1) (cwV 1 B.1.2.2.2.2 gL_bundles_X2_deliveredAt rfl rfl rfl (by decide +kernel) ⟨Nat.le_of_ble_eq_true rfl, Nat.le_of_ble_eq_true rfl⟩) (d_recv B G Dl) rfl hl.1 rfl (Nat.le_of_ble_eq_true rfl) ⟨Nat.zero_le _, Nat.zero_le _⟩ dL_bundles_240 (fun H locs G => ?_)
                                      refine lv_aload_n hx hb dL_bundles_243 rfl (lv_at hl 2 rfl) ?_
                                      refine x_callVi (rest := [.int (V (20 + 4 * i) 8)]) B G (t_clock l DL hI (TS.refl V)) (cwV 0 B.1.2.2.2.2 gL_bundles_X2_clock rfl rfl rfl (by decide +kernel) ⟨Nat.le_of_ble_eq_true rfl, Nat.le_of_ble_eq_true rfl⟩) (d_recv B G Dl) rfl hl.1 rfl (Nat.le_of_ble_eq_true rfl) ⟨Nat.zero_le _, Nat.zero_le _⟩ dL_bundles_244 (fun H locs G => ?_)
                                      refine lv_icmp_le (tgt := 252) hx hb dL_bundles_247 (by decide) (fun c_247 => ?_) (fun c_247 => ?_)
                                      · skip
                                        refine lv_iinc (v := nI (i + 1)) (lv' := [(2, .int (nI (i + 1))), (8, .int 1), (7, .int 0), (0, .ref (ad 0)), (1, .ref (ad 16)), (3, .int (V (20 + 4 * i) 7)), (4, .int (vS V (20 + 4 * i) 8)), (5, .int (cBits V (20 + 4 * i) 8)), (6, .int (vK V (20 + 4 * i) 8))]) hx hb dL_bundles_252 hl (k := 4) rfl (nI_add i 1) (by decide) rfl (fun ls hl => ?_)
                                        refine lv_goto (tgt := 2) hx hb dL_bundles_255 (by decide) ?_
                                        have hl := lv_sub (l' := [(0, .ref (ad 0)), (1, .ref (ad 16)), (2, .int (nI (i + 1)))]) hl [3, 4, 0] rfl
                                        exact ih_2 (i + 1) (by omega) (by omega) _ _ _ G hl
                                      · exact False.elim (c_247 b9)
                              · exact False.elim (absurd c_195 (by decide))
                            · exact False.elim (c_178 (by decide))
              · skip
                refine lv_iconst (v := 1) hx hb dL_bundles_116 (by decide) ?_
                refine lv_goto (tgt := 121) hx hb dL_bundles_117 (by decide) ?_
                refine lv_istore (lv' := [(7, .int 1), (0, .ref (ad 0)), (1, .ref (ad 16)), (2, .int (nI i)), (3, .int (V (20 + 4 * i) 7)), (4, .int (vS V (20 + 4 * i) 8)), (5, .int (cBits V (20 + 4 * i) 8)), (6, .int (vK V (20 + 4 * i) 8))]) hx hb dL_bundles_121 hl (by decide) rfl (fun ls hl => ?_)
                refine lv_aload_n hx hb dL_bundles_123 rfl (lv_at hl 1 rfl) ?_
                refine lv_iload_n hx hb dL_bundles_124 rfl (lv_at hl 3 rfl) ?_
                refine x_callVi (rest := []) B G ((t_fld (D := D) l DL hI (TS.refl V) (k := i) (by omega)).2.1) (cwV 1 B.1.2.2.2.2 gL_bundles_X2_deliveredAt rfl rfl rfl (by decide +kernel) ⟨Nat.le_of_ble_eq_true rfl, Nat.le_of_ble_eq_true rfl⟩) (d_recv B G Dl) rfl hl.1 rfl (Nat.le_of_ble_eq_true rfl) ⟨Nat.zero_le _, Nat.zero_le _⟩ dL_bundles_125 (fun H locs G => ?_)
                refine lv_if_lt (tgt := 135) hx hb dL_bundles_128 (by decide) (fun c_128 => ?_) (fun c_128 => ?_)
                · skip
                  refine lv_iconst (v := 0) hx hb dL_bundles_135 (by decide) ?_
                  refine lv_istore (lv' := [(8, .int 0), (7, .int 1), (0, .ref (ad 0)), (1, .ref (ad 16)), (2, .int (nI i)), (3, .int (V (20 + 4 * i) 7)), (4, .int (vS V (20 + 4 * i) 8)), (5, .int (cBits V (20 + 4 * i) 8)), (6, .int (vK V (20 + 4 * i) 8))]) hx hb dL_bundles_136 hl (by decide) rfl (fun ls hl => ?_)
                  refine lv_iload hx hb dL_bundles_138 (lv_at hl 7 rfl) ?_
                  refine lv_aload_n hx hb dL_bundles_140 rfl (lv_at hl 2 rfl) ?_
                  refine lv_iload_n hx hb dL_bundles_141 rfl (lv_at hl 4 rfl) ?_
                  refine x_callVi (rest := [.int (cBits V (20 + 4 * i) 8)]) B G ((t_fld (D := D) l DL hI (TS.refl V) (k := i) (by omega)).2.2.2.2) (cwV 1 B.1.2.2.2.2 gL_bundles_X2_holders rfl rfl rfl (by decide +kernel) ⟨Nat.le_of_ble_eq_true rfl, Nat.le_of_ble_eq_true rfl⟩) (d_recv B G Dl) rfl hl.1 rfl (Nat.le_of_ble_eq_true rfl) ⟨Nat.zero_le _, Nat.zero_le _⟩ dL_bundles_142 (fun H locs G => ?_)
                  refine lv_icmp_ne (tgt := 191) hx hb dL_bundles_145 (by decide) (fun c_145 => ?_) (fun c_145 => ?_)
                  · exact False.elim (c_145 rfl)
                  · skip
                    refine lv_iload hx hb dL_bundles_148 (lv_at hl 6 rfl) ?_
                    refine lv_aload_n hx hb dL_bundles_150 rfl (lv_at hl 3 rfl) ?_
                    refine lv_iload_n hx hb dL_bundles_151 rfl (lv_at hl 4 rfl) ?_
                    refine x_ald B G 16 s16 0 hT0 i (show i < 40 from by omega) rfl (by decide) dL_bundles_152 ?_
                    refine lv_icmp_gt (tgt := 191) hx hb dL_bundles_153 (by decide) (fun c_153 => ?_) (fun c_153 => ?_)
                    · exact False.elim (absurd (i_tr b2 (by rw [h16 i (by omega)]; exact i_rf _)) (i_nle.mpr c_153))
                    · skip
                      refine lv_iload hx hb dL_bundles_156 (lv_at hl 8 rfl) ?_
                      refine lv_iload hx hb dL_bundles_158 (lv_at hl 0 rfl) ?_
                      refine lv_icmp_ne (tgt := 191) hx hb dL_bundles_160 (by decide) (fun c_160 => ?_) (fun c_160 => ?_)
                      · exact False.elim (c_160 (by rw [b3]; exact if_pos c_128))
                      · skip
                        refine lv_iload_n hx hb dL_bundles_163 rfl (lv_at hl 5 rfl) ?_
                        refine lv_if_lt (tgt := 176) hx hb dL_bundles_164 (by decide) (fun c_164 => ?_) (fun c_164 => ?_)
                        · skip
                          refine lv_iload hx hb dL_bundles_176 (lv_at hl 1 rfl) ?_
                          refine lv_if_eq (tgt := 193) hx hb dL_bundles_178 (by decide) (fun c_178 => ?_) (fun c_178 => ?_)
                          · exact False.elim (absurd c_178 (by decide))
                          · skip
                            refine lv_iload hx hb dL_bundles_181 (lv_at hl 7 rfl) ?_
                            refine lv_if_ne (tgt := 191) hx hb dL_bundles_183 (by decide) (fun c_183 => ?_) (fun c_183 => ?_)
                            · exact False.elim (c_183 (b5 (i_nlt.mp (fun z => c_113 z))).1)
                            · skip
                              refine lv_iload_n hx hb dL_bundles_186 rfl (lv_at hl 5 rfl) ?_
                              refine lv_iconst (v := (-1)) hx hb dL_bundles_187 (by decide) ?_
                              refine lv_icmp_eq (tgt := 193) hx hb dL_bundles_188 (by decide) (fun c_188 => ?_) (fun c_188 => ?_)
                              · skip
                                refine lv_iload hx hb dL_bundles_193 (lv_at hl 0 rfl) ?_
                                refine lv_if_ne (tgt := 207) hx hb dL_bundles_195 (by decide) (fun c_195 => ?_) (fun c_195 => ?_)
                                · exact False.elim (c_195 (by decide))
                                · skip
                                  refine lv_iload hx hb dL_bundles_198 (lv_at hl 1 rfl) ?_
                                  refine lv_if_ne (tgt := 207) hx hb dL_bundles_200 (by decide) (fun c_200 => ?_) (fun c_200 => ?_)
                                  · skip
                                    refine lv_aload_n hx hb dL_bundles_207 rfl (lv_at hl 2 rfl) ?_
                                    refine lv_iload_n hx hb dL_bundles_208 rfl (lv_at hl 4 rfl) ?_
                                    refine x_callVi (rest := []) B G ((t_fld (D := D) l DL hI (TS.refl V) (k := i) (by omega)).2.2.1) (cwV 1 B.1.2.2.2.2 gL_bundles_X2_hops rfl rfl rfl (by decide +kernel) ⟨Nat.le_of_ble_eq_true rfl, Nat.le_of_ble_eq_true rfl⟩) (d_recv B G Dl) rfl hl.1 rfl (Nat.le_of_ble_eq_true rfl) ⟨Nat.zero_le _, Nat.zero_le _⟩ dL_bundles_209 (fun H locs G => ?_)
                                    refine lv_if_le (tgt := 219) hx hb dL_bundles_212 (by decide) (fun c_212 => ?_) (fun c_212 => ?_)
                                    · skip
                                      refine lv_iconst (v := 0) hx hb dL_bundles_219 (by decide) ?_
                                      refine lv_iload hx hb dL_bundles_220 (lv_at hl 0 rfl) ?_
                                      refine lv_icmp_ne (tgt := 250) hx hb dL_bundles_222 (by decide) (fun c_222 => ?_) (fun c_222 => ?_)
                                      · exact False.elim (c_222 rfl)
                                      · skip
                                        have c_222 : 0 = 0 := (nI_eq (a := 0) (b := 0) (by omega) (by omega)).mp c_222
                                        refine lv_aload_n hx hb dL_bundles_225 rfl (lv_at hl 2 rfl) ?_
                                        refine lv_iload_n hx hb dL_bundles_226 rfl (lv_at hl 4 rfl) ?_
                                        refine x_callVi (rest := []) B G ((t_fld (D := D) l DL hI (TS.refl V) (k := i) (by omega)).2.1) (cwV 1 B.1.2.2.2.2 gL_bundles_X2_deliveredAt rfl rfl rfl (by decide +kernel) ⟨Nat.le_of_ble_eq_true rfl, Nat.le_of_ble_eq_true rfl⟩) (d_recv B G Dl) rfl hl.1 rfl (Nat.le_of_ble_eq_true rfl) ⟨Nat.zero_le _, Nat.zero_le _⟩ dL_bundles_227 (fun H locs G => ?_)
                                        refine lv_aload_n hx hb dL_bundles_230 rfl (lv_at hl 2 rfl) ?_
                                        refine lv_iload_n hx hb dL_bundles_231 rfl (lv_at hl 4 rfl) ?_
                                        refine x_callVi (rest := [.int (V (20 + 4 * i) 8)]) B G ((t_fld (D := D) l DL hI (TS.refl V) (k := i) (by omega)).1) (cwV 1 B.1.2.2.2.2 gL_bundles_X2_endOf rfl rfl rfl (by decide +kernel) ⟨Nat.le_of_ble_eq_true rfl, Nat.le_of_ble_eq_true rfl⟩) (d_recv B G Dl) rfl hl.1 rfl (Nat.le_of_ble_eq_true rfl) ⟨Nat.zero_le _, Nat.zero_le _⟩ dL_bundles_232 (fun H locs G => ?_)
                                        refine lv_icmp_ge (tgt := 250) hx hb dL_bundles_235 (by decide) (fun c_235 => ?_) (fun c_235 => ?_)
                                        · exact False.elim (absurd b8 (i_nlt.mpr c_235))
                                        · skip
                                          refine lv_aload_n hx hb dL_bundles_238 rfl (lv_at hl 2 rfl) ?_
                                          refine lv_iload_n hx hb dL_bundles_239 rfl (lv_at hl 4 rfl) ?_
                                          refine x_callVi (rest := []) B G ((t_fld (D := D) l DL hI (TS.refl V) (k := i) (by omega)).2.1) (cwV 1 B.1.2.2.2.2 gL_bundles_X2_deliveredAt rfl rfl rfl (by decide +kernel) ⟨Nat.le_of_ble_eq_true rfl, Nat.le_of_ble_eq_true rfl⟩) (d_recv B G Dl) rfl hl.1 rfl (Nat.le_of_ble_eq_true rfl) ⟨Nat.zero_le _, Nat.zero_le _⟩ dL_bundles_240 (fun H locs G => ?_)
                                          refine lv_aload_n hx hb dL_bundles_243 rfl (lv_at hl 2 rfl) ?_
                                          refine x_callVi (rest := [.int (V (20 + 4 * i) 8)]) B G (t_clock l DL hI (TS.refl V)) (cwV 0 B.1.2.2.2.2 gL_bundles_X2_clock rfl rfl rfl (by decide +kernel) ⟨Nat.le_of_ble_eq_true rfl, Nat.le_of_ble_eq_true rfl⟩) (d_recv B G Dl) rfl hl.1 rfl (Nat.le_of_ble_eq_true rfl) ⟨Nat.zero_le _, Nat.zero_le _⟩ dL_bundles_244 (fun H locs G => ?_)
                                          refine lv_icmp_le (tgt := 252) hx hb dL_bundles_247 (by decide) (fun c_247 => ?_) (fun c_247 => ?_)
                                          · skip
                                            refine lv_iinc (v := nI (i + 1)) (lv' := [(2, .int (nI (i + 1))), (8, .int 0), (7, .int 1), (0, .ref (ad 0)), (1, .ref (ad 16)), (3, .int (V (20 + 4 * i) 7)), (4, .int (vS V (20 + 4 * i) 8)), (5, .int (cBits V (20 + 4 * i) 8)), (6, .int (vK V (20 + 4 * i) 8))]) hx hb dL_bundles_252 hl (k := 4) rfl (nI_add i 1) (by decide) rfl (fun ls hl => ?_)
                                            refine lv_goto (tgt := 2) hx hb dL_bundles_255 (by decide) ?_
                                            have hl := lv_sub (l' := [(0, .ref (ad 0)), (1, .ref (ad 16)), (2, .int (nI (i + 1)))]) hl [3, 4, 0] rfl
                                            exact ih_2 (i + 1) (by omega) (by omega) _ _ _ G hl
                                          · exact False.elim (c_247 b9)
                                    · skip
                                      refine lv_iconst (v := 1) hx hb dL_bundles_215 (by decide) ?_
                                      refine lv_goto (tgt := 220) hx hb dL_bundles_216 (by decide) ?_
                                      refine lv_iload hx hb dL_bundles_220 (lv_at hl 0 rfl) ?_
                                      exact absurd c_128 (b7.mp (i_nle.mp c_212))
                                  · exact False.elim (absurd c_200 (by decide))
                              · exact False.elim (c_188 (b5 (i_nlt.mp (fun z => c_113 z))).2)
                        · skip
                          refine lv_iload hx hb dL_bundles_167 (lv_at hl 7 rfl) ?_
                          refine lv_iload_n hx hb dL_bundles_169 rfl (lv_at hl 5 rfl) ?_
                          refine lv_ishr hx hb dL_bundles_170 ?_
                          refine lv_iconst (v := 1) hx hb dL_bundles_171 (by decide) ?_
                          refine lv_iand hx hb dL_bundles_172 ?_
                          refine lv_if_eq (tgt := 191) hx hb dL_bundles_173 (by decide) (fun c_173 => ?_) (fun c_173 => ?_)
                          · exact False.elim (b4 (i_nlt.mp c_164) c_173)
                          · skip
                            refine lv_iload hx hb dL_bundles_176 (lv_at hl 1 rfl) ?_
                            refine lv_if_eq (tgt := 193) hx hb dL_bundles_178 (by decide) (fun c_178 => ?_) (fun c_178 => ?_)
                            · exact False.elim (absurd c_178 (by decide))
                            · skip
                              refine lv_iload hx hb dL_bundles_181 (lv_at hl 7 rfl) ?_
                              refine lv_if_ne (tgt := 191) hx hb dL_bundles_183 (by decide) (fun c_183 => ?_) (fun c_183 => ?_)
                              · exact False.elim (c_183 (b5 (i_nlt.mp (fun z => c_113 z))).1)
                              · skip
                                refine lv_iload_n hx hb dL_bundles_186 rfl (lv_at hl 5 rfl) ?_
                                refine lv_iconst (v := (-1)) hx hb dL_bundles_187 (by decide) ?_
                                refine lv_icmp_eq (tgt := 193) hx hb dL_bundles_188 (by decide) (fun c_188 => ?_) (fun c_188 => ?_)
                                · skip
                                  refine lv_iload hx hb dL_bundles_193 (lv_at hl 0 rfl) ?_
                                  refine lv_if_ne (tgt := 207) hx hb dL_bundles_195 (by decide) (fun c_195 => ?_) (fun c_195 => ?_)
                                  · exact False.elim (c_195 (by decide))
                                  · skip
                                    refine lv_iload hx hb dL_bundles_198 (lv_at hl 1 rfl) ?_
                                    refine lv_if_ne (tgt := 207) hx hb dL_bundles_200 (by decide) (fun c_200 => ?_) (fun c_200 => ?_)
                                    · skip
                                      refine lv_aload_n hx hb dL_bundles_207 rfl (lv_at hl 2 rfl) ?_
                                      refine lv_iload_n hx hb dL_bundles_208 rfl (lv_at hl 4 rfl) ?_
                                      refine x_callVi (rest := []) B G ((t_fld (D := D) l DL hI (TS.refl V) (k := i) (by omega)).2.2.1) (cwV 1 B.1.2.2.2.2 gL_bundles_X2_hops rfl rfl rfl (by decide +kernel) ⟨Nat.le_of_ble_eq_true rfl, Nat.le_of_ble_eq_true rfl⟩) (d_recv B G Dl) rfl hl.1 rfl (Nat.le_of_ble_eq_true rfl) ⟨Nat.zero_le _, Nat.zero_le _⟩ dL_bundles_209 (fun H locs G => ?_)
                                      refine lv_if_le (tgt := 219) hx hb dL_bundles_212 (by decide) (fun c_212 => ?_) (fun c_212 => ?_)
                                      · skip
                                        refine lv_iconst (v := 0) hx hb dL_bundles_219 (by decide) ?_
                                        refine lv_iload hx hb dL_bundles_220 (lv_at hl 0 rfl) ?_
                                        refine lv_icmp_ne (tgt := 250) hx hb dL_bundles_222 (by decide) (fun c_222 => ?_) (fun c_222 => ?_)
                                        · exact False.elim (c_222 rfl)
                                        · skip
                                          have c_222 : 0 = 0 := (nI_eq (a := 0) (b := 0) (by omega) (by omega)).mp c_222
                                          refine lv_aload_n hx hb dL_bundles_225 rfl (lv_at hl 2 rfl) ?_
                                          refine lv_iload_n hx hb dL_bundles_226 rfl (lv_at hl 4 rfl) ?_
                                          refine x_callVi (rest := []) B G ((t_fld (D := D) l DL hI (TS.refl V) (k := i) (by omega)).2.1) (cwV 1 B.1.2.2.2.2 gL_bundles_X2_deliveredAt rfl rfl rfl (by decide +kernel) ⟨Nat.le_of_ble_eq_true rfl, Nat.le_of_ble_eq_true rfl⟩) (d_recv B G Dl) rfl hl.1 rfl (Nat.le_of_ble_eq_true rfl) ⟨Nat.zero_le _, Nat.zero_le _⟩ dL_bundles_227 (fun H locs G => ?_)
                                          refine lv_aload_n hx hb dL_bundles_230 rfl (lv_at hl 2 rfl) ?_
                                          refine lv_iload_n hx hb dL_bundles_231 rfl (lv_at hl 4 rfl) ?_
                                          refine x_callVi (rest := [.int (V (20 + 4 * i) 8)]) B G ((t_fld (D := D) l DL hI (TS.refl V) (k := i) (by omega)).1) (cwV 1 B.1.2.2.2.2 gL_bundles_X2_endOf rfl rfl rfl (by decide +kernel) ⟨Nat.le_of_ble_eq_true rfl, Nat.le_of_ble_eq_true rfl⟩) (d_recv B G Dl) rfl hl.1 rfl (Nat.le_of_ble_eq_true rfl) ⟨Nat.zero_le _, Nat.zero_le _⟩ dL_bundles_232 (fun H locs G => ?_)
                                          refine lv_icmp_ge (tgt := 250) hx hb dL_bundles_235 (by decide) (fun c_235 => ?_) (fun c_235 => ?_)
                                          · exact False.elim (absurd b8 (i_nlt.mpr c_235))
                                          · skip
                                            refine lv_aload_n hx hb dL_bundles_238 rfl (lv_at hl 2 rfl) ?_
                                            refine lv_iload_n hx hb dL_bundles_239 rfl (lv_at hl 4 rfl) ?_
                                            refine x_callVi (rest := []) B G ((t_fld (D := D) l DL hI (TS.refl V) (k := i) (by omega)).2.1) (cwV 1 B.1.2.2.2.2 gL_bundles_X2_deliveredAt rfl rfl rfl (by decide +kernel) ⟨Nat.le_of_ble_eq_true rfl, Nat.le_of_ble_eq_true rfl⟩) (d_recv B G Dl) rfl hl.1 rfl (Nat.le_of_ble_eq_true rfl) ⟨Nat.zero_le _, Nat.zero_le _⟩ dL_bundles_240 (fun H locs G => ?_)
                                            refine lv_aload_n hx hb dL_bundles_243 rfl (lv_at hl 2 rfl) ?_
                                            refine x_callVi (rest := [.int (V (20 + 4 * i) 8)]) B G (t_clock l DL hI (TS.refl V)) (cwV 0 B.1.2.2.2.2 gL_bundles_X2_clock rfl rfl rfl (by decide +kernel) ⟨Nat.le_of_ble_eq_true rfl, Nat.le_of_ble_eq_true rfl⟩) (d_recv B G Dl) rfl hl.1 rfl (Nat.le_of_ble_eq_true rfl) ⟨Nat.zero_le _, Nat.zero_le _⟩ dL_bundles_244 (fun H locs G => ?_)
                                            refine lv_icmp_le (tgt := 252) hx hb dL_bundles_247 (by decide) (fun c_247 => ?_) (fun c_247 => ?_)
                                            · skip
                                              refine lv_iinc (v := nI (i + 1)) (lv' := [(2, .int (nI (i + 1))), (8, .int 0), (7, .int 1), (0, .ref (ad 0)), (1, .ref (ad 16)), (3, .int (V (20 + 4 * i) 7)), (4, .int (vS V (20 + 4 * i) 8)), (5, .int (cBits V (20 + 4 * i) 8)), (6, .int (vK V (20 + 4 * i) 8))]) hx hb dL_bundles_252 hl (k := 4) rfl (nI_add i 1) (by decide) rfl (fun ls hl => ?_)
                                              refine lv_goto (tgt := 2) hx hb dL_bundles_255 (by decide) ?_
                                              have hl := lv_sub (l' := [(0, .ref (ad 0)), (1, .ref (ad 16)), (2, .int (nI (i + 1)))]) hl [3, 4, 0] rfl
                                              exact ih_2 (i + 1) (by omega) (by omega) _ _ _ G hl
                                            · exact False.elim (c_247 b9)
                                      · skip
                                        refine lv_iconst (v := 1) hx hb dL_bundles_215 (by decide) ?_
                                        refine lv_goto (tgt := 220) hx hb dL_bundles_216 (by decide) ?_
                                        refine lv_iload hx hb dL_bundles_220 (lv_at hl 0 rfl) ?_
                                        exact absurd c_128 (b7.mp (i_nle.mp c_212))
                                    · exact False.elim (absurd c_200 (by decide))
                                · exact False.elim (c_188 (b5 (i_nlt.mp (fun z => c_113 z))).2)
                · skip
                  refine lv_iconst (v := 1) hx hb dL_bundles_131 (by decide) ?_
                  refine lv_goto (tgt := 136) hx hb dL_bundles_132 (by decide) ?_
                  refine lv_istore (lv' := [(8, .int 1), (7, .int 1), (0, .ref (ad 0)), (1, .ref (ad 16)), (2, .int (nI i)), (3, .int (V (20 + 4 * i) 7)), (4, .int (vS V (20 + 4 * i) 8)), (5, .int (cBits V (20 + 4 * i) 8)), (6, .int (vK V (20 + 4 * i) 8))]) hx hb dL_bundles_136 hl (by decide) rfl (fun ls hl => ?_)
                  refine lv_iload hx hb dL_bundles_138 (lv_at hl 7 rfl) ?_
                  refine lv_aload_n hx hb dL_bundles_140 rfl (lv_at hl 2 rfl) ?_
                  refine lv_iload_n hx hb dL_bundles_141 rfl (lv_at hl 4 rfl) ?_
                  refine x_callVi (rest := [.int (cBits V (20 + 4 * i) 8)]) B G ((t_fld (D := D) l DL hI (TS.refl V) (k := i) (by omega)).2.2.2.2) (cwV 1 B.1.2.2.2.2 gL_bundles_X2_holders rfl rfl rfl (by decide +kernel) ⟨Nat.le_of_ble_eq_true rfl, Nat.le_of_ble_eq_true rfl⟩) (d_recv B G Dl) rfl hl.1 rfl (Nat.le_of_ble_eq_true rfl) ⟨Nat.zero_le _, Nat.zero_le _⟩ dL_bundles_142 (fun H locs G => ?_)
                  refine lv_icmp_ne (tgt := 191) hx hb dL_bundles_145 (by decide) (fun c_145 => ?_) (fun c_145 => ?_)
                  · exact False.elim (c_145 rfl)
                  · skip
                    refine lv_iload hx hb dL_bundles_148 (lv_at hl 6 rfl) ?_
                    refine lv_aload_n hx hb dL_bundles_150 rfl (lv_at hl 3 rfl) ?_
                    refine lv_iload_n hx hb dL_bundles_151 rfl (lv_at hl 4 rfl) ?_
                    refine x_ald B G 16 s16 0 hT0 i (show i < 40 from by omega) rfl (by decide) dL_bundles_152 ?_
                    refine lv_icmp_gt (tgt := 191) hx hb dL_bundles_153 (by decide) (fun c_153 => ?_) (fun c_153 => ?_)
                    · exact False.elim (absurd (i_tr b2 (by rw [h16 i (by omega)]; exact i_rf _)) (i_nle.mpr c_153))
                    · skip
                      refine lv_iload hx hb dL_bundles_156 (lv_at hl 8 rfl) ?_
                      refine lv_iload hx hb dL_bundles_158 (lv_at hl 0 rfl) ?_
                      refine lv_icmp_ne (tgt := 191) hx hb dL_bundles_160 (by decide) (fun c_160 => ?_) (fun c_160 => ?_)
                      · exact False.elim (c_160 (by rw [b3]; exact if_neg c_128))
                      · skip
                        refine lv_iload_n hx hb dL_bundles_163 rfl (lv_at hl 5 rfl) ?_
                        refine lv_if_lt (tgt := 176) hx hb dL_bundles_164 (by decide) (fun c_164 => ?_) (fun c_164 => ?_)
                        · skip
                          refine lv_iload hx hb dL_bundles_176 (lv_at hl 1 rfl) ?_
                          refine lv_if_eq (tgt := 193) hx hb dL_bundles_178 (by decide) (fun c_178 => ?_) (fun c_178 => ?_)
                          · exact False.elim (absurd c_178 (by decide))
                          · skip
                            refine lv_iload hx hb dL_bundles_181 (lv_at hl 7 rfl) ?_
                            refine lv_if_ne (tgt := 191) hx hb dL_bundles_183 (by decide) (fun c_183 => ?_) (fun c_183 => ?_)
                            · exact False.elim (c_183 (b5 (i_nlt.mp (fun z => c_113 z))).1)
                            · skip
                              refine lv_iload_n hx hb dL_bundles_186 rfl (lv_at hl 5 rfl) ?_
                              refine lv_iconst (v := (-1)) hx hb dL_bundles_187 (by decide) ?_
                              refine lv_icmp_eq (tgt := 193) hx hb dL_bundles_188 (by decide) (fun c_188 => ?_) (fun c_188 => ?_)
                              · skip
                                refine lv_iload hx hb dL_bundles_193 (lv_at hl 0 rfl) ?_
                                refine lv_if_ne (tgt := 207) hx hb dL_bundles_195 (by decide) (fun c_195 => ?_) (fun c_195 => ?_)
                                · skip
                                  refine lv_aload_n hx hb dL_bundles_207 rfl (lv_at hl 2 rfl) ?_
                                  refine lv_iload_n hx hb dL_bundles_208 rfl (lv_at hl 4 rfl) ?_
                                  refine x_callVi (rest := []) B G ((t_fld (D := D) l DL hI (TS.refl V) (k := i) (by omega)).2.2.1) (cwV 1 B.1.2.2.2.2 gL_bundles_X2_hops rfl rfl rfl (by decide +kernel) ⟨Nat.le_of_ble_eq_true rfl, Nat.le_of_ble_eq_true rfl⟩) (d_recv B G Dl) rfl hl.1 rfl (Nat.le_of_ble_eq_true rfl) ⟨Nat.zero_le _, Nat.zero_le _⟩ dL_bundles_209 (fun H locs G => ?_)
                                  refine lv_if_le (tgt := 219) hx hb dL_bundles_212 (by decide) (fun c_212 => ?_) (fun c_212 => ?_)
                                  · skip
                                    refine lv_iconst (v := 0) hx hb dL_bundles_219 (by decide) ?_
                                    refine lv_iload hx hb dL_bundles_220 (lv_at hl 0 rfl) ?_
                                    exact absurd (b7.mpr c_128) (i_nlt.mpr c_212)
                                  · skip
                                    refine lv_iconst (v := 1) hx hb dL_bundles_215 (by decide) ?_
                                    refine lv_goto (tgt := 220) hx hb dL_bundles_216 (by decide) ?_
                                    refine lv_iload hx hb dL_bundles_220 (lv_at hl 0 rfl) ?_
                                    refine lv_icmp_ne (tgt := 250) hx hb dL_bundles_222 (by decide) (fun c_222 => ?_) (fun c_222 => ?_)
                                    · exact False.elim (c_222 rfl)
                                    · skip
                                      have c_222 : 1 = 1 := (nI_eq (a := 1) (b := 1) (by omega) (by omega)).mp c_222
                                      refine lv_aload_n hx hb dL_bundles_225 rfl (lv_at hl 2 rfl) ?_
                                      refine lv_iload_n hx hb dL_bundles_226 rfl (lv_at hl 4 rfl) ?_
                                      refine x_callVi (rest := []) B G ((t_fld (D := D) l DL hI (TS.refl V) (k := i) (by omega)).2.1) (cwV 1 B.1.2.2.2.2 gL_bundles_X2_deliveredAt rfl rfl rfl (by decide +kernel) ⟨Nat.le_of_ble_eq_true rfl, Nat.le_of_ble_eq_true rfl⟩) (d_recv B G Dl) rfl hl.1 rfl (Nat.le_of_ble_eq_true rfl) ⟨Nat.zero_le _, Nat.zero_le _⟩ dL_bundles_227 (fun H locs G => ?_)
                                      refine lv_aload_n hx hb dL_bundles_230 rfl (lv_at hl 2 rfl) ?_
                                      refine lv_iload_n hx hb dL_bundles_231 rfl (lv_at hl 4 rfl) ?_
                                      refine x_callVi (rest := [.int (V (20 + 4 * i) 8)]) B G ((t_fld (D := D) l DL hI (TS.refl V) (k := i) (by omega)).1) (cwV 1 B.1.2.2.2.2 gL_bundles_X2_endOf rfl rfl rfl (by decide +kernel) ⟨Nat.le_of_ble_eq_true rfl, Nat.le_of_ble_eq_true rfl⟩) (d_recv B G Dl) rfl hl.1 rfl (Nat.le_of_ble_eq_true rfl) ⟨Nat.zero_le _, Nat.zero_le _⟩ dL_bundles_232 (fun H locs G => ?_)
                                      refine lv_icmp_ge (tgt := 250) hx hb dL_bundles_235 (by decide) (fun c_235 => ?_) (fun c_235 => ?_)
                                      · exact False.elim (absurd b8 (i_nlt.mpr c_235))
                                      · skip
                                        refine lv_aload_n hx hb dL_bundles_238 rfl (lv_at hl 2 rfl) ?_
                                        refine lv_iload_n hx hb dL_bundles_239 rfl (lv_at hl 4 rfl) ?_
                                        refine x_callVi (rest := []) B G ((t_fld (D := D) l DL hI (TS.refl V) (k := i) (by omega)).2.1) (cwV 1 B.1.2.2.2.2 gL_bundles_X2_deliveredAt rfl rfl rfl (by decide +kernel) ⟨Nat.le_of_ble_eq_true rfl, Nat.le_of_ble_eq_true rfl⟩) (d_recv B G Dl) rfl hl.1 rfl (Nat.le_of_ble_eq_true rfl) ⟨Nat.zero_le _, Nat.zero_le _⟩ dL_bundles_240 (fun H locs G => ?_)
                                        refine lv_aload_n hx hb dL_bundles_243 rfl (lv_at hl 2 rfl) ?_
                                        refine x_callVi (rest := [.int (V (20 + 4 * i) 8)]) B G (t_clock l DL hI (TS.refl V)) (cwV 0 B.1.2.2.2.2 gL_bundles_X2_clock rfl rfl rfl (by decide +kernel) ⟨Nat.le_of_ble_eq_true rfl, Nat.le_of_ble_eq_true rfl⟩) (d_recv B G Dl) rfl hl.1 rfl (Nat.le_of_ble_eq_true rfl) ⟨Nat.zero_le _, Nat.zero_le _⟩ dL_bundles_244 (fun H locs G => ?_)
                                        refine lv_icmp_le (tgt := 252) hx hb dL_bundles_247 (by decide) (fun c_247 => ?_) (fun c_247 => ?_)
                                        · skip
                                          refine lv_iinc (v := nI (i + 1)) (lv' := [(2, .int (nI (i + 1))), (8, .int 1), (7, .int 1), (0, .ref (ad 0)), (1, .ref (ad 16)), (3, .int (V (20 + 4 * i) 7)), (4, .int (vS V (20 + 4 * i) 8)), (5, .int (cBits V (20 + 4 * i) 8)), (6, .int (vK V (20 + 4 * i) 8))]) hx hb dL_bundles_252 hl (k := 4) rfl (nI_add i 1) (by decide) rfl (fun ls hl => ?_)
                                          refine lv_goto (tgt := 2) hx hb dL_bundles_255 (by decide) ?_
                                          have hl := lv_sub (l' := [(0, .ref (ad 0)), (1, .ref (ad 16)), (2, .int (nI (i + 1)))]) hl [3, 4, 0] rfl
                                          exact ih_2 (i + 1) (by omega) (by omega) _ _ _ G hl
                                        · exact False.elim (c_247 b9)
                                · exact False.elim (absurd c_195 (by decide))
                              · exact False.elim (c_188 (b5 (i_nlt.mp (fun z => c_113 z))).2)
                        · skip
                          refine lv_iload hx hb dL_bundles_167 (lv_at hl 7 rfl) ?_
                          refine lv_iload_n hx hb dL_bundles_169 rfl (lv_at hl 5 rfl) ?_
                          refine lv_ishr hx hb dL_bundles_170 ?_
                          refine lv_iconst (v := 1) hx hb dL_bundles_171 (by decide) ?_
                          refine lv_iand hx hb dL_bundles_172 ?_
                          refine lv_if_eq (tgt := 191) hx hb dL_bundles_173 (by decide) (fun c_173 => ?_) (fun c_173 => ?_)
                          · exact False.elim (b4 (i_nlt.mp c_164) c_173)
                          · skip
                            refine lv_iload hx hb dL_bundles_176 (lv_at hl 1 rfl) ?_
                            refine lv_if_eq (tgt := 193) hx hb dL_bundles_178 (by decide) (fun c_178 => ?_) (fun c_178 => ?_)
                            · exact False.elim (absurd c_178 (by decide))
                            · skip
                              refine lv_iload hx hb dL_bundles_181 (lv_at hl 7 rfl) ?_
                              refine lv_if_ne (tgt := 191) hx hb dL_bundles_183 (by decide) (fun c_183 => ?_) (fun c_183 => ?_)
                              · exact False.elim (c_183 (b5 (i_nlt.mp (fun z => c_113 z))).1)
                              · skip
                                refine lv_iload_n hx hb dL_bundles_186 rfl (lv_at hl 5 rfl) ?_
                                refine lv_iconst (v := (-1)) hx hb dL_bundles_187 (by decide) ?_
                                refine lv_icmp_eq (tgt := 193) hx hb dL_bundles_188 (by decide) (fun c_188 => ?_) (fun c_188 => ?_)
                                · skip
                                  refine lv_iload hx hb dL_bundles_193 (lv_at hl 0 rfl) ?_
                                  refine lv_if_ne (tgt := 207) hx hb dL_bundles_195 (by decide) (fun c_195 => ?_) (fun c_195 => ?_)
                                  · skip
                                    refine lv_aload_n hx hb dL_bundles_207 rfl (lv_at hl 2 rfl) ?_
                                    refine lv_iload_n hx hb dL_bundles_208 rfl (lv_at hl 4 rfl) ?_
                                    refine x_callVi (rest := []) B G ((t_fld (D := D) l DL hI (TS.refl V) (k := i) (by omega)).2.2.1) (cwV 1 B.1.2.2.2.2 gL_bundles_X2_hops rfl rfl rfl (by decide +kernel) ⟨Nat.le_of_ble_eq_true rfl, Nat.le_of_ble_eq_true rfl⟩) (d_recv B G Dl) rfl hl.1 rfl (Nat.le_of_ble_eq_true rfl) ⟨Nat.zero_le _, Nat.zero_le _⟩ dL_bundles_209 (fun H locs G => ?_)
                                    refine lv_if_le (tgt := 219) hx hb dL_bundles_212 (by decide) (fun c_212 => ?_) (fun c_212 => ?_)
                                    · skip
                                      refine lv_iconst (v := 0) hx hb dL_bundles_219 (by decide) ?_
                                      refine lv_iload hx hb dL_bundles_220 (lv_at hl 0 rfl) ?_
                                      exact absurd (b7.mpr c_128) (i_nlt.mpr c_212)
                                    · skip
                                      refine lv_iconst (v := 1) hx hb dL_bundles_215 (by decide) ?_
                                      refine lv_goto (tgt := 220) hx hb dL_bundles_216 (by decide) ?_
                                      refine lv_iload hx hb dL_bundles_220 (lv_at hl 0 rfl) ?_
                                      refine lv_icmp_ne (tgt := 250) hx hb dL_bundles_222 (by decide) (fun c_222 => ?_) (fun c_222 => ?_)
                                      · exact False.elim (c_222 rfl)
                                      · skip
                                        have c_222 : 1 = 1 := (nI_eq (a := 1) (b := 1) (by omega) (by omega)).mp c_222
                                        refine lv_aload_n hx hb dL_bundles_225 rfl (lv_at hl 2 rfl) ?_
                                        refine lv_iload_n hx hb dL_bundles_226 rfl (lv_at hl 4 rfl) ?_
                                        refine x_callVi (rest := []) B G ((t_fld (D := D) l DL hI (TS.refl V) (k := i) (by omega)).2.1) (cwV 1 B.1.2.2.2.2 gL_bundles_X2_deliveredAt rfl rfl rfl (by decide +kernel) ⟨Nat.le_of_ble_eq_true rfl, Nat.le_of_ble_eq_true rfl⟩) (d_recv B G Dl) rfl hl.1 rfl (Nat.le_of_ble_eq_true rfl) ⟨Nat.zero_le _, Nat.zero_le _⟩ dL_bundles_227 (fun H locs G => ?_)
                                        refine lv_aload_n hx hb dL_bundles_230 rfl (lv_at hl 2 rfl) ?_
                                        refine lv_iload_n hx hb dL_bundles_231 rfl (lv_at hl 4 rfl) ?_
                                        refine x_callVi (rest := [.int (V (20 + 4 * i) 8)]) B G ((t_fld (D := D) l DL hI (TS.refl V) (k := i) (by omega)).1) (cwV 1 B.1.2.2.2.2 gL_bundles_X2_endOf rfl rfl rfl (by decide +kernel) ⟨Nat.le_of_ble_eq_true rfl, Nat.le_of_ble_eq_true rfl⟩) (d_recv B G Dl) rfl hl.1 rfl (Nat.le_of_ble_eq_true rfl) ⟨Nat.zero_le _, Nat.zero_le _⟩ dL_bundles_232 (fun H locs G => ?_)
                                        refine lv_icmp_ge (tgt := 250) hx hb dL_bundles_235 (by decide) (fun c_235 => ?_) (fun c_235 => ?_)
                                        · exact False.elim (absurd b8 (i_nlt.mpr c_235))
                                        · skip
                                          refine lv_aload_n hx hb dL_bundles_238 rfl (lv_at hl 2 rfl) ?_
                                          refine lv_iload_n hx hb dL_bundles_239 rfl (lv_at hl 4 rfl) ?_
                                          refine x_callVi (rest := []) B G ((t_fld (D := D) l DL hI (TS.refl V) (k := i) (by omega)).2.1) (cwV 1 B.1.2.2.2.2 gL_bundles_X2_deliveredAt rfl rfl rfl (by decide +kernel) ⟨Nat.le_of_ble_eq_true rfl, Nat.le_of_ble_eq_true rfl⟩) (d_recv B G Dl) rfl hl.1 rfl (Nat.le_of_ble_eq_true rfl) ⟨Nat.zero_le _, Nat.zero_le _⟩ dL_bundles_240 (fun H locs G => ?_)
                                          refine lv_aload_n hx hb dL_bundles_243 rfl (lv_at hl 2 rfl) ?_
                                          refine x_callVi (rest := [.int (V (20 + 4 * i) 8)]) B G (t_clock l DL hI (TS.refl V)) (cwV 0 B.1.2.2.2.2 gL_bundles_X2_clock rfl rfl rfl (by decide +kernel) ⟨Nat.le_of_ble_eq_true rfl, Nat.le_of_ble_eq_true rfl⟩) (d_recv B G Dl) rfl hl.1 rfl (Nat.le_of_ble_eq_true rfl) ⟨Nat.zero_le _, Nat.zero_le _⟩ dL_bundles_244 (fun H locs G => ?_)
                                          refine lv_icmp_le (tgt := 252) hx hb dL_bundles_247 (by decide) (fun c_247 => ?_) (fun c_247 => ?_)
                                          · skip
                                            refine lv_iinc (v := nI (i + 1)) (lv' := [(2, .int (nI (i + 1))), (8, .int 1), (7, .int 1), (0, .ref (ad 0)), (1, .ref (ad 16)), (3, .int (V (20 + 4 * i) 7)), (4, .int (vS V (20 + 4 * i) 8)), (5, .int (cBits V (20 + 4 * i) 8)), (6, .int (vK V (20 + 4 * i) 8))]) hx hb dL_bundles_252 hl (k := 4) rfl (nI_add i 1) (by decide) rfl (fun ls hl => ?_)
                                            refine lv_goto (tgt := 2) hx hb dL_bundles_255 (by decide) ?_
                                            have hl := lv_sub (l' := [(0, .ref (ad 0)), (1, .ref (ad 16)), (2, .int (nI (i + 1)))]) hl [3, 4, 0] rfl
                                            exact ih_2 (i + 1) (by omega) (by omega) _ _ _ G hl
                                          · exact False.elim (c_247 b9)
                                  · exact False.elim (absurd c_195 (by decide))
                                · exact False.elim (c_188 (b5 (i_nlt.mp (fun z => c_113 z))).2)
            · skip
              have c_32 : ¬ (8 ≤ j) := fun h9 => c_32 ((nI_leI (a := 8) (b := j) (by omega) (by omega)).mpr h9)
              refine lv_aload_n hx hb dL_bundles_35 rfl (lv_at hl 0 rfl) ?_
              refine lv_iload hx hb dL_bundles_36 (lv_at hl 7 rfl) ?_
              refine lv_iload_n hx hb dL_bundles_38 rfl (lv_at hl 2 rfl) ?_
              refine x_callVi (rest := []) B G (t_copies l DL hI (TS.refl V) (n := j) (k := i) (by omega) (by omega)) (cwV 2 B.1.2.2.2.2 gL_bundles_X2_copies rfl rfl rfl (by decide +kernel) ⟨Nat.le_of_ble_eq_true rfl, Nat.le_of_ble_eq_true rfl⟩) (d_recv B G Dl) rfl hl.1 rfl (Nat.le_of_ble_eq_true rfl) ⟨Nat.zero_le _, Nat.zero_le _⟩ dL_bundles_39 (fun H locs G => ?_)
              refine lv_istore (lv' := [(8, .int (V (20 + 4 * i + 1) j)), (0, .ref (ad 0)), (1, .ref (ad 16)), (2, .int (nI i)), (3, .int (V (20 + 4 * i) 7)), (4, .int (vS V (20 + 4 * i) j)), (5, .int (cBits V (20 + 4 * i) j)), (6, .int (vK V (20 + 4 * i) j)), (7, .int (nI j))]) hx hb dL_bundles_42 hl (by decide) rfl (fun ls hl => ?_)
              refine lv_iload hx hb dL_bundles_44 (lv_at hl 5 rfl) ?_
              refine lv_iload hx hb dL_bundles_46 (lv_at hl 0 rfl) ?_
              refine lv_iadd hx hb dL_bundles_48 ?_
              refine lv_istore (lv' := [(4, .int ((vS V (20 + 4 * i) j) + (V (20 + 4 * i + 1) j))), (8, .int (V (20 + 4 * i + 1) j)), (0, .ref (ad 0)), (1, .ref (ad 16)), (2, .int (nI i)), (3, .int (V (20 + 4 * i) 7)), (5, .int (cBits V (20 + 4 * i) j)), (6, .int (vK V (20 + 4 * i) j)), (7, .int (nI j))]) hx hb dL_bundles_49 hl (by decide) rfl (fun ls hl => ?_)
              refine lv_iload hx hb dL_bundles_51 (lv_at hl 6 rfl) ?_
              refine lv_iload hx hb dL_bundles_53 (lv_at hl 1 rfl) ?_
              refine lv_if_le (tgt := 65) hx hb dL_bundles_55 (by decide) (fun c_55 => ?_) (fun c_55 => ?_)
              · skip
                refine lv_iconst (v := 0) hx hb dL_bundles_65 (by decide) ?_
                refine lv_ior hx hb dL_bundles_66 ?_
                refine lv_istore (lv' := [(5, .int ((cBits V (20 + 4 * i) j) ||| 0)), (4, .int ((vS V (20 + 4 * i) j) + (V (20 + 4 * i + 1) j))), (8, .int (V (20 + 4 * i + 1) j)), (0, .ref (ad 0)), (1, .ref (ad 16)), (2, .int (nI i)), (3, .int (V (20 + 4 * i) 7)), (6, .int (vK V (20 + 4 * i) j)), (7, .int (nI j))]) hx hb dL_bundles_67 hl (by decide) rfl (fun ls hl => ?_)
                refine lv_iload hx hb dL_bundles_69 (lv_at hl 7 rfl) ?_
                refine lv_aload_n hx hb dL_bundles_71 rfl (lv_at hl 3 rfl) ?_
                refine lv_iload hx hb dL_bundles_72 (lv_at hl 8 rfl) ?_
                refine lv_iload_n hx hb dL_bundles_74 rfl (lv_at hl 5 rfl) ?_
                refine x_callVi (rest := [.int (vK V (20 + 4 * i) j)]) B G (t_knows l DL hI (TS.refl V) (n := j) (k := i) (by omega) (by omega)) (cwV 2 B.1.2.2.2.2 gL_bundles_X2_knows rfl rfl rfl (by decide +kernel) ⟨Nat.le_of_ble_eq_true rfl, Nat.le_of_ble_eq_true rfl⟩) (d_recv B G Dl) rfl hl.1 rfl (Nat.le_of_ble_eq_true rfl) ⟨Nat.zero_le _, Nat.zero_le _⟩ dL_bundles_75 (fun H locs G => ?_)
                refine lv_ior hx hb dL_bundles_78 ?_
                refine lv_istore (lv' := [(6, .int ((vK V (20 + 4 * i) j) ||| (V (20 + 4 * i + 3) j))), (5, .int ((cBits V (20 + 4 * i) j) ||| 0)), (4, .int ((vS V (20 + 4 * i) j) + (V (20 + 4 * i + 1) j))), (8, .int (V (20 + 4 * i + 1) j)), (0, .ref (ad 0)), (1, .ref (ad 16)), (2, .int (nI i)), (3, .int (V (20 + 4 * i) 7)), (7, .int (nI j))]) hx hb dL_bundles_79 hl (by decide) rfl (fun ls hl => ?_)
                refine lv_iload hx hb dL_bundles_81 (lv_at hl 3 rfl) ?_
                refine lv_if_le (tgt := 98) hx hb dL_bundles_83 (by decide) (fun c_83 => ?_) (fun c_83 => ?_)
                · skip
                  refine lv_iinc (v := nI (j + 1)) (lv' := [(7, .int (nI (j + 1))), (6, .int ((vK V (20 + 4 * i) j) ||| (V (20 + 4 * i + 3) j))), (5, .int ((cBits V (20 + 4 * i) j) ||| 0)), (4, .int ((vS V (20 + 4 * i) j) + (V (20 + 4 * i + 1) j))), (8, .int (V (20 + 4 * i + 1) j)), (0, .ref (ad 0)), (1, .ref (ad 16)), (2, .int (nI i)), (3, .int (V (20 + 4 * i) 7))]) hx hb dL_bundles_98 hl (k := 8) rfl (nI_add j 1) (by decide) rfl (fun ls hl => ?_)
                  refine lv_goto (tgt := 28) hx hb dL_bundles_101 (by decide) ?_
                  have hl := lv_sub (l' := [(0, .ref (ad 0)), (1, .ref (ad 16)), (2, .int (nI i)), (3, .int (V (20 + 4 * i) 7)), (4, .int ((vS V (20 + 4 * i) j) + (V (20 + 4 * i + 1) j))), (5, .int ((cBits V (20 + 4 * i) j) ||| 0)), (6, .int ((vK V (20 + 4 * i) j) ||| (V (20 + 4 * i + 3) j))), (7, .int (nI (j + 1)))]) hl [5, 6, 7, 8, 3, 2, 1, 0] rfl
                  have hl := lv_cast hl (congrArg (fun z : Int32 => ([(0, .ref (ad 0)), (1, .ref (ad 16)), (2, .int (nI i)), (3, .int (V (20 + 4 * i) 7)), (4, .int z), (5, .int ((cBits V (20 + 4 * i) j) ||| 0)), (6, .int ((vK V (20 + 4 * i) j) ||| (V (20 + 4 * i + 3) j))), (7, .int (nI (j + 1)))] : List (Nat × Value))) (show ((vS V (20 + 4 * i) j) + (V (20 + 4 * i + 1) j)) = (vS V (20 + 4 * i) (j + 1)) from rfl))
                  have hl := lv_cast hl (congrArg (fun z : Int32 => ([(0, .ref (ad 0)), (1, .ref (ad 16)), (2, .int (nI i)), (3, .int (V (20 + 4 * i) 7)), (4, .int (vS V (20 + 4 * i) (j + 1))), (5, .int z), (6, .int ((vK V (20 + 4 * i) j) ||| (V (20 + 4 * i + 3) j))), (7, .int (nI (j + 1)))] : List (Nat × Value))) (show ((cBits V (20 + 4 * i) j) ||| 0) = (cBits V (20 + 4 * i) (j + 1)) from (zor _).trans (if_neg (i_nlt.mpr c_55)).symm))
                  have hl := lv_cast hl (congrArg (fun z : Int32 => ([(0, .ref (ad 0)), (1, .ref (ad 16)), (2, .int (nI i)), (3, .int (V (20 + 4 * i) 7)), (4, .int (vS V (20 + 4 * i) (j + 1))), (5, .int (cBits V (20 + 4 * i) (j + 1))), (6, .int z), (7, .int (nI (j + 1)))] : List (Nat × Value))) (show ((vK V (20 + 4 * i) j) ||| (V (20 + 4 * i + 3) j)) = (vK V (20 + 4 * i) (j + 1)) from rfl))
                  exact ih_28 (j + 1) (by omega) (by omega) _ _ _ G hl
                · skip
                  refine lv_aload_n hx hb dL_bundles_86 rfl (lv_at hl 4 rfl) ?_
                  refine lv_iload hx hb dL_bundles_87 (lv_at hl 8 rfl) ?_
                  refine lv_iload_n hx hb dL_bundles_89 rfl (lv_at hl 6 rfl) ?_
                  refine x_callVi (rest := []) B G (t_knows l DL hI (TS.refl V) (n := j) (k := i) (by omega) (by omega)) (cwV 2 B.1.2.2.2.2 gL_bundles_X2_knows rfl rfl rfl (by decide +kernel) ⟨Nat.le_of_ble_eq_true rfl, Nat.le_of_ble_eq_true rfl⟩) (d_recv B G Dl) rfl hl.1 rfl (Nat.le_of_ble_eq_true rfl) ⟨Nat.zero_le _, Nat.zero_le _⟩ dL_bundles_90 (fun H locs G => ?_)
                  refine lv_if_eq (tgt := 98) hx hb dL_bundles_93 (by decide) (fun c_93 => ?_) (fun c_93 => ?_)
                  · skip
                    refine lv_iinc (v := nI (j + 1)) (lv' := [(7, .int (nI (j + 1))), (6, .int ((vK V (20 + 4 * i) j) ||| (V (20 + 4 * i + 3) j))), (5, .int ((cBits V (20 + 4 * i) j) ||| 0)), (4, .int ((vS V (20 + 4 * i) j) + (V (20 + 4 * i + 1) j))), (8, .int (V (20 + 4 * i + 1) j)), (0, .ref (ad 0)), (1, .ref (ad 16)), (2, .int (nI i)), (3, .int (V (20 + 4 * i) 7))]) hx hb dL_bundles_98 hl (k := 8) rfl (nI_add j 1) (by decide) rfl (fun ls hl => ?_)
                    refine lv_goto (tgt := 28) hx hb dL_bundles_101 (by decide) ?_
                    have hl := lv_sub (l' := [(0, .ref (ad 0)), (1, .ref (ad 16)), (2, .int (nI i)), (3, .int (V (20 + 4 * i) 7)), (4, .int ((vS V (20 + 4 * i) j) + (V (20 + 4 * i + 1) j))), (5, .int ((cBits V (20 + 4 * i) j) ||| 0)), (6, .int ((vK V (20 + 4 * i) j) ||| (V (20 + 4 * i + 3) j))), (7, .int (nI (j + 1)))]) hl [5, 6, 7, 8, 3, 2, 1, 0] rfl
                    have hl := lv_cast hl (congrArg (fun z : Int32 => ([(0, .ref (ad 0)), (1, .ref (ad 16)), (2, .int (nI i)), (3, .int (V (20 + 4 * i) 7)), (4, .int z), (5, .int ((cBits V (20 + 4 * i) j) ||| 0)), (6, .int ((vK V (20 + 4 * i) j) ||| (V (20 + 4 * i + 3) j))), (7, .int (nI (j + 1)))] : List (Nat × Value))) (show ((vS V (20 + 4 * i) j) + (V (20 + 4 * i + 1) j)) = (vS V (20 + 4 * i) (j + 1)) from rfl))
                    have hl := lv_cast hl (congrArg (fun z : Int32 => ([(0, .ref (ad 0)), (1, .ref (ad 16)), (2, .int (nI i)), (3, .int (V (20 + 4 * i) 7)), (4, .int (vS V (20 + 4 * i) (j + 1))), (5, .int z), (6, .int ((vK V (20 + 4 * i) j) ||| (V (20 + 4 * i + 3) j))), (7, .int (nI (j + 1)))] : List (Nat × Value))) (show ((cBits V (20 + 4 * i) j) ||| 0) = (cBits V (20 + 4 * i) (j + 1)) from (zor _).trans (if_neg (i_nlt.mpr c_55)).symm))
                    have hl := lv_cast hl (congrArg (fun z : Int32 => ([(0, .ref (ad 0)), (1, .ref (ad 16)), (2, .int (nI i)), (3, .int (V (20 + 4 * i) 7)), (4, .int (vS V (20 + 4 * i) (j + 1))), (5, .int (cBits V (20 + 4 * i) (j + 1))), (6, .int z), (7, .int (nI (j + 1)))] : List (Nat × Value))) (show ((vK V (20 + 4 * i) j) ||| (V (20 + 4 * i + 3) j)) = (vK V (20 + 4 * i) (j + 1)) from rfl))
                    exact ih_28 (j + 1) (by omega) (by omega) _ _ _ G hl
                  · exact False.elim (c_93 (by rw [b1 j (by omega) (i_nle.mp c_83)]))
              · skip
                refine lv_iconst (v := 1) hx hb dL_bundles_58 (by decide) ?_
                refine lv_iload hx hb dL_bundles_59 (lv_at hl 8 rfl) ?_
                refine lv_ishl hx hb dL_bundles_61 ?_
                refine lv_goto (tgt := 66) hx hb dL_bundles_62 (by decide) ?_
                refine lv_ior hx hb dL_bundles_66 ?_
                refine lv_istore (lv' := [(5, .int ((cBits V (20 + 4 * i) j) ||| (1 <<< ((nI j) &&& 31)))), (4, .int ((vS V (20 + 4 * i) j) + (V (20 + 4 * i + 1) j))), (8, .int (V (20 + 4 * i + 1) j)), (0, .ref (ad 0)), (1, .ref (ad 16)), (2, .int (nI i)), (3, .int (V (20 + 4 * i) 7)), (6, .int (vK V (20 + 4 * i) j)), (7, .int (nI j))]) hx hb dL_bundles_67 hl (by decide) rfl (fun ls hl => ?_)
                refine lv_iload hx hb dL_bundles_69 (lv_at hl 7 rfl) ?_
                refine lv_aload_n hx hb dL_bundles_71 rfl (lv_at hl 3 rfl) ?_
                refine lv_iload hx hb dL_bundles_72 (lv_at hl 8 rfl) ?_
                refine lv_iload_n hx hb dL_bundles_74 rfl (lv_at hl 5 rfl) ?_
                refine x_callVi (rest := [.int (vK V (20 + 4 * i) j)]) B G (t_knows l DL hI (TS.refl V) (n := j) (k := i) (by omega) (by omega)) (cwV 2 B.1.2.2.2.2 gL_bundles_X2_knows rfl rfl rfl (by decide +kernel) ⟨Nat.le_of_ble_eq_true rfl, Nat.le_of_ble_eq_true rfl⟩) (d_recv B G Dl) rfl hl.1 rfl (Nat.le_of_ble_eq_true rfl) ⟨Nat.zero_le _, Nat.zero_le _⟩ dL_bundles_75 (fun H locs G => ?_)
                refine lv_ior hx hb dL_bundles_78 ?_
                refine lv_istore (lv' := [(6, .int ((vK V (20 + 4 * i) j) ||| (V (20 + 4 * i + 3) j))), (5, .int ((cBits V (20 + 4 * i) j) ||| (1 <<< ((nI j) &&& 31)))), (4, .int ((vS V (20 + 4 * i) j) + (V (20 + 4 * i + 1) j))), (8, .int (V (20 + 4 * i + 1) j)), (0, .ref (ad 0)), (1, .ref (ad 16)), (2, .int (nI i)), (3, .int (V (20 + 4 * i) 7)), (7, .int (nI j))]) hx hb dL_bundles_79 hl (by decide) rfl (fun ls hl => ?_)
                refine lv_iload hx hb dL_bundles_81 (lv_at hl 3 rfl) ?_
                refine lv_if_le (tgt := 98) hx hb dL_bundles_83 (by decide) (fun c_83 => ?_) (fun c_83 => ?_)
                · skip
                  refine lv_iinc (v := nI (j + 1)) (lv' := [(7, .int (nI (j + 1))), (6, .int ((vK V (20 + 4 * i) j) ||| (V (20 + 4 * i + 3) j))), (5, .int ((cBits V (20 + 4 * i) j) ||| (1 <<< ((nI j) &&& 31)))), (4, .int ((vS V (20 + 4 * i) j) + (V (20 + 4 * i + 1) j))), (8, .int (V (20 + 4 * i + 1) j)), (0, .ref (ad 0)), (1, .ref (ad 16)), (2, .int (nI i)), (3, .int (V (20 + 4 * i) 7))]) hx hb dL_bundles_98 hl (k := 8) rfl (nI_add j 1) (by decide) rfl (fun ls hl => ?_)
                  refine lv_goto (tgt := 28) hx hb dL_bundles_101 (by decide) ?_
                  have hl := lv_sub (l' := [(0, .ref (ad 0)), (1, .ref (ad 16)), (2, .int (nI i)), (3, .int (V (20 + 4 * i) 7)), (4, .int ((vS V (20 + 4 * i) j) + (V (20 + 4 * i + 1) j))), (5, .int ((cBits V (20 + 4 * i) j) ||| (1 <<< ((nI j) &&& 31)))), (6, .int ((vK V (20 + 4 * i) j) ||| (V (20 + 4 * i + 3) j))), (7, .int (nI (j + 1)))]) hl [5, 6, 7, 8, 3, 2, 1, 0] rfl
                  have hl := lv_cast hl (congrArg (fun z : Int32 => ([(0, .ref (ad 0)), (1, .ref (ad 16)), (2, .int (nI i)), (3, .int (V (20 + 4 * i) 7)), (4, .int z), (5, .int ((cBits V (20 + 4 * i) j) ||| (1 <<< ((nI j) &&& 31)))), (6, .int ((vK V (20 + 4 * i) j) ||| (V (20 + 4 * i + 3) j))), (7, .int (nI (j + 1)))] : List (Nat × Value))) (show ((vS V (20 + 4 * i) j) + (V (20 + 4 * i + 1) j)) = (vS V (20 + 4 * i) (j + 1)) from rfl))
                  have hl := lv_cast hl (congrArg (fun z : Int32 => ([(0, .ref (ad 0)), (1, .ref (ad 16)), (2, .int (nI i)), (3, .int (V (20 + 4 * i) 7)), (4, .int (vS V (20 + 4 * i) (j + 1))), (5, .int z), (6, .int ((vK V (20 + 4 * i) j) ||| (V (20 + 4 * i + 3) j))), (7, .int (nI (j + 1)))] : List (Nat × Value))) (show ((cBits V (20 + 4 * i) j) ||| (1 <<< ((nI j) &&& 31))) = (cBits V (20 + 4 * i) (j + 1)) from (if_pos (i_nle.mp c_55)).symm))
                  have hl := lv_cast hl (congrArg (fun z : Int32 => ([(0, .ref (ad 0)), (1, .ref (ad 16)), (2, .int (nI i)), (3, .int (V (20 + 4 * i) 7)), (4, .int (vS V (20 + 4 * i) (j + 1))), (5, .int (cBits V (20 + 4 * i) (j + 1))), (6, .int z), (7, .int (nI (j + 1)))] : List (Nat × Value))) (show ((vK V (20 + 4 * i) j) ||| (V (20 + 4 * i + 3) j)) = (vK V (20 + 4 * i) (j + 1)) from rfl))
                  exact ih_28 (j + 1) (by omega) (by omega) _ _ _ G hl
                · skip
                  refine lv_aload_n hx hb dL_bundles_86 rfl (lv_at hl 4 rfl) ?_
                  refine lv_iload hx hb dL_bundles_87 (lv_at hl 8 rfl) ?_
                  refine lv_iload_n hx hb dL_bundles_89 rfl (lv_at hl 6 rfl) ?_
                  refine x_callVi (rest := []) B G (t_knows l DL hI (TS.refl V) (n := j) (k := i) (by omega) (by omega)) (cwV 2 B.1.2.2.2.2 gL_bundles_X2_knows rfl rfl rfl (by decide +kernel) ⟨Nat.le_of_ble_eq_true rfl, Nat.le_of_ble_eq_true rfl⟩) (d_recv B G Dl) rfl hl.1 rfl (Nat.le_of_ble_eq_true rfl) ⟨Nat.zero_le _, Nat.zero_le _⟩ dL_bundles_90 (fun H locs G => ?_)
                  refine lv_if_eq (tgt := 98) hx hb dL_bundles_93 (by decide) (fun c_93 => ?_) (fun c_93 => ?_)
                  · skip
                    refine lv_iinc (v := nI (j + 1)) (lv' := [(7, .int (nI (j + 1))), (6, .int ((vK V (20 + 4 * i) j) ||| (V (20 + 4 * i + 3) j))), (5, .int ((cBits V (20 + 4 * i) j) ||| (1 <<< ((nI j) &&& 31)))), (4, .int ((vS V (20 + 4 * i) j) + (V (20 + 4 * i + 1) j))), (8, .int (V (20 + 4 * i + 1) j)), (0, .ref (ad 0)), (1, .ref (ad 16)), (2, .int (nI i)), (3, .int (V (20 + 4 * i) 7))]) hx hb dL_bundles_98 hl (k := 8) rfl (nI_add j 1) (by decide) rfl (fun ls hl => ?_)
                    refine lv_goto (tgt := 28) hx hb dL_bundles_101 (by decide) ?_
                    have hl := lv_sub (l' := [(0, .ref (ad 0)), (1, .ref (ad 16)), (2, .int (nI i)), (3, .int (V (20 + 4 * i) 7)), (4, .int ((vS V (20 + 4 * i) j) + (V (20 + 4 * i + 1) j))), (5, .int ((cBits V (20 + 4 * i) j) ||| (1 <<< ((nI j) &&& 31)))), (6, .int ((vK V (20 + 4 * i) j) ||| (V (20 + 4 * i + 3) j))), (7, .int (nI (j + 1)))]) hl [5, 6, 7, 8, 3, 2, 1, 0] rfl
                    have hl := lv_cast hl (congrArg (fun z : Int32 => ([(0, .ref (ad 0)), (1, .ref (ad 16)), (2, .int (nI i)), (3, .int (V (20 + 4 * i) 7)), (4, .int z), (5, .int ((cBits V (20 + 4 * i) j) ||| (1 <<< ((nI j) &&& 31)))), (6, .int ((vK V (20 + 4 * i) j) ||| (V (20 + 4 * i + 3) j))), (7, .int (nI (j + 1)))] : List (Nat × Value))) (show ((vS V (20 + 4 * i) j) + (V (20 + 4 * i + 1) j)) = (vS V (20 + 4 * i) (j + 1)) from rfl))
                    have hl := lv_cast hl (congrArg (fun z : Int32 => ([(0, .ref (ad 0)), (1, .ref (ad 16)), (2, .int (nI i)), (3, .int (V (20 + 4 * i) 7)), (4, .int (vS V (20 + 4 * i) (j + 1))), (5, .int z), (6, .int ((vK V (20 + 4 * i) j) ||| (V (20 + 4 * i + 3) j))), (7, .int (nI (j + 1)))] : List (Nat × Value))) (show ((cBits V (20 + 4 * i) j) ||| (1 <<< ((nI j) &&& 31))) = (cBits V (20 + 4 * i) (j + 1)) from (if_pos (i_nle.mp c_55)).symm))
                    have hl := lv_cast hl (congrArg (fun z : Int32 => ([(0, .ref (ad 0)), (1, .ref (ad 16)), (2, .int (nI i)), (3, .int (V (20 + 4 * i) 7)), (4, .int (vS V (20 + 4 * i) (j + 1))), (5, .int (cBits V (20 + 4 * i) (j + 1))), (6, .int z), (7, .int (nI (j + 1)))] : List (Nat × Value))) (show ((vK V (20 + 4 * i) j) ||| (V (20 + 4 * i + 3) j)) = (vK V (20 + 4 * i) (j + 1)) from rfl))
                    exact ih_28 (j + 1) (by omega) (by omega) _ _ _ G hl
                  · exact False.elim (c_93 (by rw [b1 j (by omega) (i_nle.mp c_83)]))
        have hl := lv_sub (l' := [(0, .ref (ad 0)), (1, .ref (ad 16)), (2, .int (nI i)), (3, .int (V (20 + 4 * i) 7)), (4, .int 0), (5, .int 0), (6, .int 0), (7, .int 0)]) hl [5, 6, 7, 4, 3, 2, 1, 0] rfl
        have hl := lv_cast hl (congrArg (fun z : Int32 => ([(0, .ref (ad 0)), (1, .ref (ad 16)), (2, .int (nI i)), (3, .int (V (20 + 4 * i) 7)), (4, .int z), (5, .int 0), (6, .int 0), (7, .int 0)] : List (Nat × Value))) (show 0 = (vS V (20 + 4 * i) 0) from rfl))
        have hl := lv_cast hl (congrArg (fun z : Int32 => ([(0, .ref (ad 0)), (1, .ref (ad 16)), (2, .int (nI i)), (3, .int (V (20 + 4 * i) 7)), (4, .int (vS V (20 + 4 * i) 0)), (5, .int z), (6, .int 0), (7, .int 0)] : List (Nat × Value))) (show 0 = (cBits V (20 + 4 * i) 0) from rfl))
        have hl := lv_cast hl (congrArg (fun z : Int32 => ([(0, .ref (ad 0)), (1, .ref (ad 16)), (2, .int (nI i)), (3, .int (V (20 + 4 * i) 7)), (4, .int (vS V (20 + 4 * i) 0)), (5, .int (cBits V (20 + 4 * i) 0)), (6, .int z), (7, .int 0)] : List (Nat × Value))) (show 0 = (vK V (20 + 4 * i) 0) from rfl))
        have hl := lv_cast hl (congrArg (fun z : Int32 => ([(0, .ref (ad 0)), (1, .ref (ad 16)), (2, .int (nI i)), (3, .int (V (20 + 4 * i) 7)), (4, .int (vS V (20 + 4 * i) 0)), (5, .int (cBits V (20 + 4 * i) 0)), (6, .int (vK V (20 + 4 * i) 0)), (7, .int z)] : List (Nat × Value))) (show 0 = (nI 0) from rfl))
        exact loop_28 (8 + 1) 0 (by omega) (by omega) _ _ _ G hl
  have hl := lv_sub (l' := [(0, .ref (ad 0)), (1, .ref (ad 16)), (2, .int 0)]) hl [1, 2, 0] rfl
  have hl := lv_cast hl (congrArg (fun z : Int32 => ([(0, .ref (ad 0)), (1, .ref (ad 16)), (2, .int z)] : List (Nat × Value))) (show 0 = (nI 0) from rfl))
  exact loop_2 (nb + 1) 0 (by omega) (by omega) _ _ _ G hl
