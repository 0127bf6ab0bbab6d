section XQL
variable {p : Program} {l : Launch} {e : Env} {R : Room} {s : State} {m : MethodId} {args : Array Value} {below : List Frame} {meth : Method} {c : Code} {H : Heap} {locs : List Loc} {cells slots : Nat} {Q : State → Prop}
variable {cc : ByteArray} {pc : Nat} {ls : Array Slot} {rest : List Value}
theorem x_aload_nq (hexec : p.tables.exec = Jvm.exec) (hb : c.code = cc) {k : Fin 4} {i : Nat} {r : Option Nat} (hdg : decode cc pc = .ok (.aload_n k, 1)) (hi : (k : Nat) = i) (hl : ls[i]? = some (.val (va_rf r)))
    (kk : W p l e R s m args below meth c H locs cells slots Q (F0 m (pc + 1) ls (va_rf r :: rest))) : W p l e R s m args below meth c H locs cells slots Q (F0 m pc ls rest) := by
  cases r with
  | none => exact lv_aload_nN hexec hb hdg hi hl kk
  | some a => exact lv_aload_n hexec hb hdg hi hl kk
theorem x_topq {r r' : Option Nat} (h : r = r') (k : W p l e R s m args below meth c H locs cells slots Q (F0 m pc ls (va_rf r' :: rest))) : W p l e R s m args below meth c H locs cells slots Q (F0 m pc ls (va_rf r :: rest)) := by
  rw [h]; exact k
end XQL
theorem va_rf_c (r : Option Nat) : (va_rf r).category = 1 := by cases r <;> rfl
set_option maxHeartbeats 4000000 in
set_option maxRecDepth 100000 in
theorem c_X2_isWithin (l : Launch) {D : va_G} {sh : xS} {ad : Nat → Nat} {tys : List (ClassId × FieldType)} (hI : xI sh ad) (V : xV) (x a b : Int32) : xMi l yX2_isWithin wsX2_isWithin (rmK 0) D sh ad tys V [.int x, .int a, .int b] (b2i (a ≤ x ∧ x ≤ b)) V := by
  refine xOfi (cc := cX2_isWithin) (nL := 3) (ret := some .boolean) (own := RX2) (by decide) rfl rfl (Nat.le_of_ble_eq_true rfl) hI ?_
  intro p e s m args below meth c A ls B G hl
  have hx := B.1.1
  have hb := B.1.2.1
  have hl : lv_has ls 3 [(0, .int x), (1, .int a), (2, .int b)] := hl
  refine lv_iload_n hx hb dX2_isWithin_0 rfl (lv_at hl 1 rfl) ?_
  refine lv_iload_n hx hb dX2_isWithin_1 rfl (lv_at hl 0 rfl) ?_
  refine lv_icmp_gt (tgt := 14) hx hb dX2_isWithin_2 (by decide) (fun c_2 => ?_) (fun c_2 => ?_)
  · skip
    refine lv_iconst (v := 0) hx hb dX2_isWithin_14 (by decide) ?_
    exact x_zret B G (Or.inl rfl) ((b2i_f (by simp only [i_lt, i_le] at *; omega)).symm) (rfl) dX2_isWithin_15
  · skip
    refine lv_iload_n hx hb dX2_isWithin_5 rfl (lv_at hl 0 rfl) ?_
    refine lv_iload_n hx hb dX2_isWithin_6 rfl (lv_at hl 2 rfl) ?_
    refine lv_icmp_gt (tgt := 14) hx hb dX2_isWithin_7 (by decide) (fun c_7 => ?_) (fun c_7 => ?_)
    · skip
      refine lv_iconst (v := 0) hx hb dX2_isWithin_14 (by decide) ?_
      exact x_zret B G (Or.inl rfl) ((b2i_f (by simp only [i_lt, i_le] at *; omega)).symm) (rfl) dX2_isWithin_15
    · skip
      refine lv_iconst (v := 1) hx hb dX2_isWithin_10 (by decide) ?_
      refine lv_goto (tgt := 15) hx hb dX2_isWithin_11 (by decide) ?_
      exact x_zret B G (Or.inr rfl) ((b2i_t (by simp only [i_lt, i_le] at *; omega)).symm) (rfl) dX2_isWithin_15
set_option maxHeartbeats 4000000 in
set_option maxRecDepth 100000 in
theorem c_X2_isNode (l : Launch) {D : va_G} {sh : xS} {ad : Nat → Nat} {tys : List (ClassId × FieldType)} (hI : xI sh ad) (V : xV) (x : Int32) : xMi l yX2_isNode wsX2_isNode (rmK 1) D sh ad tys V [.int x] (b2i (0 ≤ x ∧ x ≤ 7)) V := by
  refine xOfi (cc := cX2_isNode) (nL := 1) (ret := some .boolean) (own := RX2) (by decide) rfl rfl (Nat.le_of_ble_eq_true rfl) hI ?_
  intro p e s m args below meth c A ls B G hl
  have hx := B.1.1
  have hb := B.1.2.1
  have hl : lv_has ls 1 [(0, .int x)] := hl
  refine lv_iload_n hx hb dX2_isNode_0 rfl (lv_at hl 0 rfl) ?_
  refine lv_iconst (v := 0) hx hb dX2_isNode_1 (by decide) ?_
  refine lv_bipush (v := 7) hx hb dX2_isNode_2 (by decide) ?_
  refine x_callSi (rest := []) B G (c_X2_isWithin l hI V x 0 7) (va_cwS 3 B.1.2.2.2.2 gX2_isNode_X2_isWithin rfl rfl rfl (by decide +kernel) ⟨Nat.le_of_ble_eq_true rfl, Nat.le_of_ble_eq_true rfl⟩) rfl hl.1 rfl (Nat.le_of_ble_eq_true rfl) ⟨Nat.zero_le _, Nat.zero_le _⟩ dX2_isNode_4 (fun H locs G => ?_)
  exact x_zret B G (b2i_01 _) (rfl) (rfl) dX2_isNode_7
set_option maxHeartbeats 4000000 in
set_option maxRecDepth 100000 in
theorem c_X2_secondOrNone (l : Launch) {D : va_G} {sh : xS} {ad : Nat → Nat} {tys : List (ClassId × FieldType)} (hI : xI sh ad) (V : xV) (x : Int32) : xMi l yX2_secondOrNone wsX2_secondOrNone (rmK 0) D sh ad tys V [.int x] (if x = NEV then -1 else x) V := by
  refine xOfi (cc := cX2_secondOrNone) (nL := 1) (ret := some .int) (own := RX2) (by decide) rfl rfl (Nat.le_of_ble_eq_true rfl) hI ?_
  intro p e s m args below meth c A ls B G hl
  have hx := B.1.1
  have hb := B.1.2.1
  have hl : lv_has ls 1 [(0, .int x)] := hl
  refine lv_iload_n hx hb dX2_secondOrNone_0 rfl (lv_at hl 0 rfl) ?_
  refine lv_ldc (v := 2147483647) hx hb B.1.2.2.2.1 (B.1.2.2.2.2 (Cond.constant RX2 185 (2147483647)) (by decide +kernel)) dX2_secondOrNone_1 ?_
  refine lv_icmp_ne (tgt := 10) hx hb dX2_secondOrNone_3 (by decide) (fun c_3 => ?_) (fun c_3 => ?_)
  · skip
    refine lv_iload_n hx hb dX2_secondOrNone_10 rfl (lv_at hl 0 rfl) ?_
    exact x_iret B G ((if_neg c_3).symm) (rfl) dX2_secondOrNone_11
  · skip
    refine lv_iconst (v := (-1)) hx hb dX2_secondOrNone_6 (by decide) ?_
    refine lv_goto (tgt := 11) hx hb dX2_secondOrNone_7 (by decide) ?_
    exact x_iret B G ((if_pos c_3).symm) (rfl) dX2_secondOrNone_11
def cHas (V : xV) (n k : Nat) : Bool := decide (0 < V (20 + 4 * k + 1) n)
set_option maxHeartbeats 4000000 in
set_option maxRecDepth 100000 in
theorem c_X2_countAt (l : Launch) {D : va_G} {sh : xS} {ad : Nat → Nat} {cI cZ cO : ClassId} {tys : List (ClassId × FieldType)} {nb : Nat} {od : Nat → Nat} (DL : xDl sh ad cI cZ cO tys nb od) (V : xV) (h4 : V 4 2 = nI nb) (h5 : V 5 2 = nI nb) (n : Nat) (hn : n < 8) : xMi l yX2_countAt wsX2_countAt (rmK 3) D sh ad tys V [.ref (ad 0), .int (nI n)] (nI (cntP (cHas V n) nb)) V := by
  refine xOfi (cc := cX2_countAt) (nL := 4) (ret := some .int) (own := RX2) (by decide) rfl rfl (Nat.le_of_ble_eq_true rfl) DL.2.2.2.2.2.2.1.2.2 ?_
  intro p e s m args below meth c A ls B G hl
  have hx := B.1.1
  have hb := B.1.2.1
  have hin0 : ∀ w ∈ wsX00, w ∈ wsX2_countAt := by decide +kernel
  have hin2 : ∀ w ∈ wsX20, w ∈ wsX2_countAt := by decide +kernel
  have hinL : ∀ w ∈ wsJx4a65c0, w ∈ wsX2_countAt := by decide +kernel
  have hl : lv_has ls 4 [(0, .ref (ad 0)), (1, .int (nI n))] := hl
  obtain ⟨Dl, Pl, L4, L5, Bs, od_lt, Cx, tO, hn40⟩ := id DL
  obtain ⟨a4, s4, -⟩ := id L4
  obtain ⟨a5, s5, -⟩ := id L5
  refine lv_iconst (v := 0) hx hb dX2_countAt_0 (by decide) ?_
  refine lv_istore_n (lv' := [(2, .int 0), (0, .ref (ad 0)), (1, .int (nI n))]) hx hb dX2_countAt_1 rfl hl (by decide) rfl (fun ls hl => ?_)
  refine lv_iconst (v := 0) hx hb dX2_countAt_2 (by decide) ?_
  refine lv_istore_n (lv' := [(3, .int 0), (2, .int 0), (0, .ref (ad 0)), (1, .int (nI n))]) hx hb dX2_countAt_3 rfl hl (by decide) rfl (fun ls hl => ?_)
  have loop_4 : ∀ (f i : Nat), i ≤ nb → nb < i + f → ∀ (H : Heap) (locs : List Loc) (ls : Array Slot), xG D sh ad A s.heap V H locs → lv_has ls 4 [(0, .ref (ad 0)), (1, .int (nI n)), (2, .int (nI (cntP (cHas V n) i))), (3, .int (nI i))] → W p l e (rmK 3) s m args below meth c H locs 0 0 (xQi below D sh ad tys A args s (nI (cntP (cHas V n) nb)) V) (F0 m 4 ls []) := by
    intro f
    induction f with
    | zero => intro i h1 h2; exact absurd h2 (by omega)
    | succ f ih_4 =>
      intro i hi hf H locs ls G hl
      refine lv_iload_n hx hb dX2_countAt_4 rfl (lv_at hl 3 rfl) ?_
      refine lv_aload_n hx hb dX2_countAt_5 rfl (lv_at hl 0 rfl) ?_
      refine d_getA B G Dl hin2 4 (by decide) (by decide +kernel) dX2_countAt_6 ?_
      refine x_callVi (rest := [.int (nI i)]) B G (c_size l Cx.2.2 V 4 s4) (cwV 0 B.1.2.2.2.2 gX2_countAt_Jx4a65c_size_8abf5 rfl rfl rfl (by decide +kernel) ⟨Nat.le_of_ble_eq_true rfl, Nat.le_of_ble_eq_true rfl⟩) (l_recv B G 4 s4) rfl hl.1 rfl (Nat.le_of_ble_eq_true rfl) ⟨Nat.zero_le _, Nat.zero_le _⟩ dX2_countAt_9 (fun H locs G => ?_)
      refine x_top (show _ = nI nb from h4) ?_
      refine lv_icmp_ge (tgt := 42) hx hb dX2_countAt_12 (by decide) (fun c_12 => ?_) (fun c_12 => ?_)
      · skip
        have c_12 : nb ≤ i := (nI_leI (a := nb) (b := i) (by omega) (by omega)).mp c_12
        refine lv_iload_n hx hb dX2_countAt_42 rfl (lv_at hl 2 rfl) ?_
        exact x_iret B G (by rw [show i = nb by omega]) (rfl) dX2_countAt_43
      · skip
        have c_12 : ¬ (nb ≤ i) := fun h9 => c_12 ((nI_leI (a := nb) (b := i) (by omega) (by omega)).mpr h9)
        refine lv_aload_n hx hb dX2_countAt_15 rfl (lv_at hl 0 rfl) ?_
        refine d_getA B G Dl hin2 4 (by decide) (by decide +kernel) dX2_countAt_16 ?_
        refine lv_iload_n hx hb dX2_countAt_19 rfl (lv_at hl 3 rfl) ?_
        refine x_callVq (rest := []) B G (c_get l tO Cx.2.2 V L4 i (by omega) (by omega) h4) (cwV 1 B.1.2.2.2.2 gX2_countAt_Jx4a65c_get_915e3 rfl rfl rfl (by decide +kernel) ⟨Nat.le_of_ble_eq_true rfl, Nat.le_of_ble_eq_true rfl⟩) (l_recv B G 4 s4) rfl hl.1 rfl (Nat.le_of_ble_eq_true rfl) ⟨Nat.zero_le _, Nat.zero_le _⟩ dX2_countAt_20 (fun H locs G => ?_)
        refine x_cast B G (20 + 4 * i) (Bs i (by omega)).1 (q := (RX0, TX0, 11)) rfl (by decide +kernel) dX2_countAt_23 ?_
        refine lv_iload_n hx hb dX2_countAt_26 rfl (lv_at hl 1 rfl) ?_
        refine x_callVi (rest := []) B G (c_X0_isAt l Cx V (20 + 4 * i) (Bs i (by omega)) n (by omega)) (cwV 1 B.1.2.2.2.2 gX2_countAt_X0_isAt rfl rfl rfl (by decide +kernel) ⟨Nat.le_of_ble_eq_true rfl, Nat.le_of_ble_eq_true rfl⟩) (b_recv B G (Bs i (by omega))) rfl hl.1 rfl (Nat.le_of_ble_eq_true rfl) ⟨Nat.zero_le _, Nat.zero_le _⟩ dX2_countAt_27 (fun H locs G => ?_)
        refine lv_if_eq (tgt := 36) hx hb dX2_countAt_30 (by decide) (fun c_30 => ?_) (fun c_30 => ?_)
        · skip
          refine lv_iinc (v := nI (i + 1)) (lv' := [(3, .int (nI (i + 1))), (0, .ref (ad 0)), (1, .int (nI n)), (2, .int (nI (cntP (cHas V n) i)))]) hx hb dX2_countAt_36 hl (k := 3) rfl (nI_add i 1) (by decide) rfl (fun ls hl => ?_)
          refine lv_goto (tgt := 4) hx hb dX2_countAt_39 (by decide) ?_
          have hl := lv_sub (l' := [(0, .ref (ad 0)), (1, .int (nI n)), (2, .int (nI (cntP (cHas V n) i))), (3, .int (nI (i + 1)))]) hl [1, 2, 3, 0] rfl
          have hl := lv_cast hl (congrArg (fun z : Int32 => ([(0, .ref (ad 0)), (1, .int (nI n)), (2, .int z), (3, .int (nI (i + 1)))] : List (Nat × Value))) (show nI (cntP (cHas V n) i) = nI (cntP (cHas V n) (i + 1)) from congrArg nI (cntP_f (P := cHas V n) (fun z => b2i_0.mp c_30 (of_decide_eq_true z))).symm))
          exact ih_4 (i + 1) (by omega) (by omega) _ _ _ G hl
        · skip
          refine lv_iinc (v := nI (cntP (cHas V n) i + 1)) (lv' := [(2, .int (nI (cntP (cHas V n) i + 1))), (0, .ref (ad 0)), (1, .int (nI n)), (3, .int (nI i))]) hx hb dX2_countAt_33 hl (k := 2) rfl (nI_add (cntP (cHas V n) i) 1) (by decide) rfl (fun ls hl => ?_)
          refine lv_iinc (v := nI (i + 1)) (lv' := [(3, .int (nI (i + 1))), (2, .int (nI (cntP (cHas V n) i + 1))), (0, .ref (ad 0)), (1, .int (nI n))]) hx hb dX2_countAt_36 hl (k := 3) rfl (nI_add i 1) (by decide) rfl (fun ls hl => ?_)
          refine lv_goto (tgt := 4) hx hb dX2_countAt_39 (by decide) ?_
          have hl := lv_sub (l' := [(0, .ref (ad 0)), (1, .int (nI n)), (2, .int (nI (cntP (cHas V n) i + 1))), (3, .int (nI (i + 1)))]) hl [2, 3, 1, 0] rfl
          have hl := lv_cast hl (congrArg (fun z : Int32 => ([(0, .ref (ad 0)), (1, .int (nI n)), (2, .int z), (3, .int (nI (i + 1)))] : List (Nat × Value))) (show nI (cntP (cHas V n) i + 1) = nI (cntP (cHas V n) (i + 1)) from congrArg nI (cntP_t (P := cHas V n) (decide_eq_true (b2i_1 c_30))).symm))
          exact ih_4 (i + 1) (by omega) (by omega) _ _ _ G hl
  have hl := lv_sub (l' := [(0, .ref (ad 0)), (1, .int (nI n)), (2, .int 0), (3, .int 0)]) hl [2, 3, 1, 0] rfl
  have hl := lv_cast hl (congrArg (fun z : Int32 => ([(0, .ref (ad 0)), (1, .int (nI n)), (2, .int z), (3, .int 0)] : List (Nat × Value))) (show 0 = nI (cntP (cHas V n) 0) from rfl))
  have hl := lv_cast hl (congrArg (fun z : Int32 => ([(0, .ref (ad 0)), (1, .int (nI n)), (2, .int (nI (cntP (cHas V n) 0))), (3, .int z)] : List (Nat × Value))) (show 0 = nI 0 from rfl))
  exact loop_4 (nb + 1) 0 (by omega) (by omega) _ _ _ G hl
def cLast (V : xV) (od : Nat → Nat) (n : Nat) : Nat → Nat
  | 0 => 0
  | k + 1 => if 0 < V (20 + 4 * od k + 1) n ∧ ¬ V (20 + 4 * od k) 7 = nI n then k + 1 else cLast V od n k
theorem cLast_le (V : xV) (od : Nat → Nat) (n k : Nat) : cLast V od n k ≤ k := by
  induction k with
  | zero => exact Nat.le_refl 0
  | succ k ih => unfold cLast; split <;> omega
def oB (ad od : Nat → Nat) (m : Nat) : Option Nat := if m = 0 then none else some (ad (20 + 4 * od (m - 1)))
theorem cLast_t {V : xV} {od : Nat → Nat} {n k : Nat} (h1 : 0 < V (20 + 4 * od k + 1) n) (h2 : ¬ V (20 + 4 * od k) 7 = nI n) : cLast V od n (k + 1) = k + 1 := if_pos ⟨h1, h2⟩
theorem cLast_f {V : xV} {od : Nat → Nat} {n k : Nat} (h : ¬ (0 < V (20 + 4 * od k + 1) n ∧ ¬ V (20 + 4 * od k) 7 = nI n)) : cLast V od n (k + 1) = cLast V od n k := if_neg h
set_option maxHeartbeats 4000000 in
set_option maxRecDepth 100000 in
theorem c_X2_lastWithoutCustody (l : Launch) {D : va_G} {sh : xS} {ad : Nat → Nat} {cI cZ cO : ClassId} {tys : List (ClassId × FieldType)} {nb : Nat} {od : Nat → Nat} (DL : xDl sh ad cI cZ cO tys nb od) (V : xV) (h4 : V 4 2 = nI nb) (h5 : V 5 2 = nI nb) (n : Nat) (hn : n < 8) : xMq l yX2_lastWithoutCustody wsX2_lastWithoutCustody (rmK 3) D sh ad tys V [.ref (ad 0), .int (nI n)] (oB ad od (cLast V od n nb)) V := by
  refine xOfq (cc := cX2_lastWithoutCustody) (nL := 5) (ret := some (.object "Delaypouch$Bundle")) (own := RX2) (by decide) rfl rfl (Nat.le_of_ble_eq_true rfl) DL.2.2.2.2.2.2.1.2.2 ?_
  intro p e s m args below meth c A ls B G hl
  have hx := B.1.1
  have hb := B.1.2.1
  have hin0 : ∀ w ∈ wsX00, w ∈ wsX2_lastWithoutCustody := by decide +kernel
  have hin2 : ∀ w ∈ wsX20, w ∈ wsX2_lastWithoutCustody := by decide +kernel
  have hinL : ∀ w ∈ wsJx4a65c0, w ∈ wsX2_lastWithoutCustody := by decide +kernel
  have hl : lv_has ls 5 [(0, .ref (ad 0)), (1, .int (nI n))] := hl
  obtain ⟨Dl, Pl, L4, L5, Bs, od_lt, Cx, tO, hn40⟩ := id DL
  obtain ⟨a4, s4, -⟩ := id L4
  obtain ⟨a5, s5, -⟩ := id L5
  refine lv_null hx hb dX2_lastWithoutCustody_0 ?_
  refine lv_astore_nN (lv' := [(2, .null), (0, .ref (ad 0)), (1, .int (nI n))]) hx hb dX2_lastWithoutCustody_1 rfl hl (by decide) rfl (fun ls hl => ?_)
  refine lv_iconst (v := 0) hx hb dX2_lastWithoutCustody_2 (by decide) ?_
  refine lv_istore_n (lv' := [(3, .int 0), (2, .null), (0, .ref (ad 0)), (1, .int (nI n))]) hx hb dX2_lastWithoutCustody_3 rfl hl (by decide) rfl (fun ls hl => ?_)
  have loop_4 : ∀ (f i : Nat), i ≤ nb → nb < i + f → ∀ (H : Heap) (locs : List Loc) (ls : Array Slot), xG D sh ad A s.heap V H locs → lv_has ls 5 [(0, .ref (ad 0)), (1, .int (nI n)), (2, va_rf (oB ad od (cLast V od n i))), (3, .int (nI i))] → W p l e (rmK 3) s m args below meth c H locs 0 0 (xQq below D sh ad tys A args s (oB ad od (cLast V od n nb)) V) (F0 m 4 ls []) := by
    intro f
    induction f with
    | zero => intro i h1 h2; exact absurd h2 (by omega)
    | succ f ih_4 =>
      intro i hi hf H locs ls G hl
      refine lv_iload_n hx hb dX2_lastWithoutCustody_4 rfl (lv_at hl 3 rfl) ?_
      refine lv_aload_n hx hb dX2_lastWithoutCustody_5 rfl (lv_at hl 0 rfl) ?_
      refine d_getA B G Dl hin2 5 (by decide) (by decide +kernel) dX2_lastWithoutCustody_6 ?_
      refine x_callVi (rest := [.int (nI i)]) B G (c_size l Cx.2.2 V 5 s5) (cwV 0 B.1.2.2.2.2 gX2_lastWithoutCustody_Jx4a65c_size_8abf5 rfl rfl rfl (by decide +kernel) ⟨Nat.le_of_ble_eq_true rfl, Nat.le_of_ble_eq_true rfl⟩) (l_recv B G 5 s5) rfl hl.1 rfl (Nat.le_of_ble_eq_true rfl) ⟨Nat.zero_le _, Nat.zero_le _⟩ dX2_lastWithoutCustody_9 (fun H locs G => ?_)
      refine x_top (show _ = nI nb from h5) ?_
      refine lv_icmp_ge (tgt := 55) hx hb dX2_lastWithoutCustody_12 (by decide) (fun c_12 => ?_) (fun c_12 => ?_)
      · skip
        have c_12 : nb ≤ i := (nI_leI (a := nb) (b := i) (by omega) (by omega)).mp c_12
        refine x_aload_nq hx hb dX2_lastWithoutCustody_55 rfl (lv_at hl 2 rfl) ?_
        exact x_qret B G (Or.inl ⟨_, rfl⟩) (by rw [show i = nb by omega]) (rfl) dX2_lastWithoutCustody_56
      · skip
        have c_12 : ¬ (nb ≤ i) := fun h9 => c_12 ((nI_leI (a := nb) (b := i) (by omega) (by omega)).mpr h9)
        refine lv_aload_n hx hb dX2_lastWithoutCustody_15 rfl (lv_at hl 0 rfl) ?_
        refine d_getA B G Dl hin2 5 (by decide) (by decide +kernel) dX2_lastWithoutCustody_16 ?_
        refine lv_iload_n hx hb dX2_lastWithoutCustody_19 rfl (lv_at hl 3 rfl) ?_
        refine x_callVq (rest := []) B G (c_get l tO Cx.2.2 V L5 i (by omega) (by omega) h5) (cwV 1 B.1.2.2.2.2 gX2_lastWithoutCustody_Jx4a65c_get_915e3 rfl rfl rfl (by decide +kernel) ⟨Nat.le_of_ble_eq_true rfl, Nat.le_of_ble_eq_true rfl⟩) (l_recv B G 5 s5) rfl hl.1 rfl (Nat.le_of_ble_eq_true rfl) ⟨Nat.zero_le _, Nat.zero_le _⟩ dX2_lastWithoutCustody_20 (fun H locs G => ?_)
        refine x_cast B G (20 + 4 * od i) (Bs (od i) (od_lt i (by omega))).1 (q := (RX0, TX0, 11)) rfl (by decide +kernel) dX2_lastWithoutCustody_23 ?_
        refine lv_astore (lv' := [(4, .ref (ad (20 + 4 * od i))), (0, .ref (ad 0)), (1, .int (nI n)), (2, va_rf (oB ad od (cLast V od n i))), (3, .int (nI i))]) hx hb dX2_lastWithoutCustody_26 hl (by decide) rfl (fun ls hl => ?_)
        refine lv_aload hx hb dX2_lastWithoutCustody_28 (lv_at hl 0 rfl) ?_
        refine lv_iload_n hx hb dX2_lastWithoutCustody_30 rfl (lv_at hl 2 rfl) ?_
        refine x_callVi (rest := []) B G (c_X0_isAt l Cx V (20 + 4 * od i) (Bs (od i) (od_lt i (by omega))) n (by omega)) (cwV 1 B.1.2.2.2.2 gX2_lastWithoutCustody_X0_isAt rfl rfl rfl (by decide +kernel) ⟨Nat.le_of_ble_eq_true rfl, Nat.le_of_ble_eq_true rfl⟩) (b_recv B G (Bs (od i) (od_lt i (by omega)))) rfl hl.1 rfl (Nat.le_of_ble_eq_true rfl) ⟨Nat.zero_le _, Nat.zero_le _⟩ dX2_lastWithoutCustody_31 (fun H locs G => ?_)
        refine lv_if_eq (tgt := 49) hx hb dX2_lastWithoutCustody_34 (by decide) (fun c_34 => ?_) (fun c_34 => ?_)
        · skip
          refine lv_iinc (v := nI (i + 1)) (lv' := [(3, .int (nI (i + 1))), (4, .ref (ad (20 + 4 * od i))), (0, .ref (ad 0)), (1, .int (nI n)), (2, va_rf (oB ad od (cLast V od n i)))]) hx hb dX2_lastWithoutCustody_49 hl (k := 4) rfl (nI_add i 1) (by decide) (by simp [va_rf_c]) (fun ls hl => ?_)
          refine lv_goto (tgt := 4) hx hb dX2_lastWithoutCustody_52 (by decide) ?_
          have hl := lv_sub (l' := [(0, .ref (ad 0)), (1, .int (nI n)), (2, va_rf (oB ad od (cLast V od n i))), (3, .int (nI (i + 1)))]) hl [2, 3, 4, 0] rfl
          have hl := lv_cast hl (congrArg (fun z : Option Nat => ([(0, .ref (ad 0)), (1, .int (nI n)), (2, va_rf z), (3, .int (nI (i + 1)))] : List (Nat × Value))) (show oB ad od (cLast V od n i) = oB ad od (cLast V od n (i + 1)) from congrArg (oB ad od) (cLast_f (fun z => b2i_0.mp c_34 z.1)).symm))
          exact ih_4 (i + 1) (by omega) (by omega) _ _ _ G hl
        · skip
          refine lv_aload hx hb dX2_lastWithoutCustody_37 (lv_at hl 0 rfl) ?_
          refine b_getI B G (Bs (od i) (od_lt i (by omega))) hin0 7 (by decide) (by decide +kernel) dX2_lastWithoutCustody_39 ?_
          refine lv_iload_n hx hb dX2_lastWithoutCustody_42 rfl (lv_at hl 2 rfl) ?_
          refine lv_icmp_eq (tgt := 49) hx hb dX2_lastWithoutCustody_43 (by decide) (fun c_43 => ?_) (fun c_43 => ?_)
          · skip
            refine lv_iinc (v := nI (i + 1)) (lv' := [(3, .int (nI (i + 1))), (4, .ref (ad (20 + 4 * od i))), (0, .ref (ad 0)), (1, .int (nI n)), (2, va_rf (oB ad od (cLast V od n i)))]) hx hb dX2_lastWithoutCustody_49 hl (k := 4) rfl (nI_add i 1) (by decide) (by simp [va_rf_c]) (fun ls hl => ?_)
            refine lv_goto (tgt := 4) hx hb dX2_lastWithoutCustody_52 (by decide) ?_
            have hl := lv_sub (l' := [(0, .ref (ad 0)), (1, .int (nI n)), (2, va_rf (oB ad od (cLast V od n i))), (3, .int (nI (i + 1)))]) hl [2, 3, 4, 0] rfl
            have hl := lv_cast hl (congrArg (fun z : Option Nat => ([(0, .ref (ad 0)), (1, .int (nI n)), (2, va_rf z), (3, .int (nI (i + 1)))] : List (Nat × Value))) (show oB ad od (cLast V od n i) = oB ad od (cLast V od n (i + 1)) from congrArg (oB ad od) (cLast_f (fun z => z.2 c_43)).symm))
            exact ih_4 (i + 1) (by omega) (by omega) _ _ _ G hl
          · skip
            refine lv_aload hx hb dX2_lastWithoutCustody_46 (lv_at hl 0 rfl) ?_
            refine lv_astore_n (lv' := [(2, .ref (ad (20 + 4 * od i))), (4, .ref (ad (20 + 4 * od i))), (0, .ref (ad 0)), (1, .int (nI n)), (3, .int (nI i))]) hx hb dX2_lastWithoutCustody_48 rfl hl (by decide) rfl (fun ls hl => ?_)
            refine lv_iinc (v := nI (i + 1)) (lv' := [(3, .int (nI (i + 1))), (2, .ref (ad (20 + 4 * od i))), (4, .ref (ad (20 + 4 * od i))), (0, .ref (ad 0)), (1, .int (nI n))]) hx hb dX2_lastWithoutCustody_49 hl (k := 4) rfl (nI_add i 1) (by decide) rfl (fun ls hl => ?_)
            refine lv_goto (tgt := 4) hx hb dX2_lastWithoutCustody_52 (by decide) ?_
            have hl := lv_sub (l' := [(0, .ref (ad 0)), (1, .int (nI n)), (2, .ref (ad (20 + 4 * od i))), (3, .int (nI (i + 1)))]) hl [3, 4, 1, 0] rfl
            have hl := lv_cast (l' := [(0, .ref (ad 0)), (1, .int (nI n)), (2, va_rf (oB ad od (cLast V od n (i + 1)))), (3, .int (nI (i + 1)))]) hl (by rw [show oB ad od (cLast V od n (i + 1)) = some (ad (20 + 4 * od i)) from by rw [cLast_t (b2i_1 c_34) c_43]; rfl]; rfl)
            have hl := lv_sub (l' := [(0, .ref (ad 0)), (1, .int (nI n)), (2, va_rf (oB ad od (cLast V od n (i + 1)))), (3, .int (nI (i + 1)))]) hl [0, 1, 2, 3] rfl
            exact ih_4 (i + 1) (by omega) (by omega) _ _ _ G hl
  have hl := lv_sub (l' := [(0, .ref (ad 0)), (1, .int (nI n)), (2, .null), (3, .int 0)]) hl [2, 3, 1, 0] rfl
  have hl : lv_has ls 5 [(0, .ref (ad 0)), (1, .int (nI n)), (2, va_rf (oB ad od (cLast V od n 0))), (3, .int 0)] := hl
  have hl := lv_cast hl (congrArg (fun z : Int32 => ([(0, .ref (ad 0)), (1, .int (nI n)), (2, va_rf (oB ad od (cLast V od n 0))), (3, .int z)] : List (Nat × Value))) (show 0 = nI 0 from rfl))
  exact loop_4 (nb + 1) 0 (by omega) (by omega) _ _ _ G hl
def cRoomB (V : xV) (od : Nat → Nat) (n : Nat) (prio : Int32) (nb : Nat) : Bool := if V 1 n ≤ nI (cntP (cHas V n) nb) then (if cLast V od n nb = 0 then false else decide (V (20 + 4 * od (cLast V od n nb - 1)) 2 < prio)) else true
def cRoomV (V : xV) (od : Nat → Nat) (n : Nat) (prio : Int32) (nb : Nat) : xV := if V 1 n ≤ nI (cntP (cHas V n) nb) then (if cLast V od n nb = 0 then V else if V (20 + 4 * od (cLast V od n nb - 1)) 2 < prio then xu (bPut V (20 + 4 * od (cLast V od n nb - 1)) n 0 0) 2 n (V 2 n + 1) else V) else V
set_option maxHeartbeats 4000000 in
set_option maxRecDepth 100000 in
theorem c_X2_makeRoom (l : Launch) {D : va_G} {sh : xS} {ad : Nat → Nat} {cI cZ cO : ClassId} {tys : List (ClassId × FieldType)} {nb : Nat} {od : Nat → Nat} (DL : xDl sh ad cI cZ cO tys nb od) (V : xV) (h4 : V 4 2 = nI nb) (h5 : V 5 2 = nI nb) (n : Nat) (prio : Int32) (hn : n < 8) : xMi l yX2_makeRoom wsX2_makeRoom (rmK 4) D sh ad tys V [.ref (ad 0), .int (nI n), .int prio] (b2i (cRoomB V od n prio nb = true)) (cRoomV V od n prio nb) := by
  refine xOfi (cc := cX2_makeRoom) (nL := 4) (ret := some .boolean) (own := RX2) (by decide) rfl rfl (Nat.le_of_ble_eq_true rfl) DL.2.2.2.2.2.2.1.2.2 ?_
  intro p e s m args below meth c A ls B G hl
  have hx := B.1.1
  have hb := B.1.2.1
  have hin0 : ∀ w ∈ wsX00, w ∈ wsX2_makeRoom := by decide +kernel
  have hin2 : ∀ w ∈ wsX20, w ∈ wsX2_makeRoom := by decide +kernel
  have hinL : ∀ w ∈ wsJx4a65c0, w ∈ wsX2_makeRoom := by decide +kernel
  have hl : lv_has ls 4 [(0, .ref (ad 0)), (1, .int (nI n)), (2, .int prio)] := hl
  obtain ⟨Dl, Pl, L4, L5, Bs, od_lt, Cx, tO, hn40⟩ := id DL
  obtain ⟨a4, s4, -⟩ := id L4
  obtain ⟨a5, s5, -⟩ := id L5
  refine lv_aload_n hx hb dX2_makeRoom_0 rfl (lv_at hl 0 rfl) ?_
  refine lv_iload_n hx hb dX2_makeRoom_1 rfl (lv_at hl 1 rfl) ?_
  refine x_callVi (rest := []) B G (c_X2_countAt l DL V h4 h5 n hn) (cwV 1 B.1.2.2.2.2 gX2_makeRoom_X2_countAt rfl rfl rfl (by decide +kernel) ⟨Nat.le_of_ble_eq_true rfl, Nat.le_of_ble_eq_true rfl⟩) (d_recv B G Dl) rfl hl.1 rfl (Nat.le_of_ble_eq_true rfl) ⟨Nat.zero_le _, Nat.zero_le _⟩ dX2_makeRoom_2 (fun H locs G => ?_)
  refine lv_aload_n hx hb dX2_makeRoom_5 rfl (lv_at hl 0 rfl) ?_
  refine d_getA B G Dl hin2 1 (by decide) (by decide +kernel) dX2_makeRoom_6 ?_
  refine lv_iload_n hx hb dX2_makeRoom_9 rfl (lv_at hl 1 rfl) ?_
  refine x_ald B G (1) Dl.2.1 0 Cx.1 n (show n < 8 from by omega) rfl (by decide) dX2_makeRoom_10 ?_
  refine lv_icmp_ge (tgt := 16) hx hb dX2_makeRoom_11 (by decide) (fun c_11 => ?_) (fun c_11 => ?_)
  · skip
    refine lv_aload_n hx hb dX2_makeRoom_16 rfl (lv_at hl 0 rfl) ?_
    refine lv_iload_n hx hb dX2_makeRoom_17 rfl (lv_at hl 1 rfl) ?_
    refine x_callVq (rest := []) B G (c_X2_lastWithoutCustody l DL V h4 h5 n hn) (cwV 1 B.1.2.2.2.2 gX2_makeRoom_X2_lastWithoutCustody rfl rfl rfl (by decide +kernel) ⟨Nat.le_of_ble_eq_true rfl, Nat.le_of_ble_eq_true rfl⟩) (d_recv B G Dl) rfl hl.1 rfl (Nat.le_of_ble_eq_true rfl) ⟨Nat.zero_le _, Nat.zero_le _⟩ dX2_makeRoom_18 (fun H locs G => ?_)
    by_cases hz : cLast V od n nb = 0
    · skip
      refine x_topq (show oB ad od (cLast V od n nb) = none from if_pos hz) ?_
      refine lv_astore_nN (lv' := [(3, .null), (0, .ref (ad 0)), (1, .int (nI n)), (2, .int prio)]) hx hb dX2_makeRoom_21 rfl hl (by decide) rfl (fun ls hl => ?_)
      refine lv_aload_nN hx hb dX2_makeRoom_22 rfl (lv_at hl 0 rfl) ?_
      refine lv_ifnullN (tgt := 34) hx hb dX2_makeRoom_23 (by decide) ?_
      refine lv_iconst (v := 0) hx hb dX2_makeRoom_34 (by decide) ?_
      exact x_zret B G (Or.inl rfl) (by unfold cRoomB; rw [if_pos c_11, if_pos hz]; exact b2i_false.symm) (by unfold cRoomV; rw [if_pos c_11, if_pos hz]) dX2_makeRoom_35
    · skip
      refine x_topq (show oB ad od (cLast V od n nb) = some (ad (20 + 4 * od (cLast V od n nb - 1))) from if_neg hz) ?_
      refine lv_astore_n (lv' := [(3, .ref (ad (20 + 4 * od (cLast V od n nb - 1)))), (0, .ref (ad 0)), (1, .int (nI n)), (2, .int prio)]) hx hb dX2_makeRoom_21 rfl hl (by decide) rfl (fun ls hl => ?_)
      refine lv_aload_n hx hb dX2_makeRoom_22 rfl (lv_at hl 0 rfl) ?_
      refine lv_ifnull hx hb dX2_makeRoom_23 ?_
      refine lv_aload_n hx hb dX2_makeRoom_26 rfl (lv_at hl 0 rfl) ?_
      refine b_getI B G (Bs (od (cLast V od n nb - 1)) (od_lt (cLast V od n nb - 1) (by have := cLast_le V od n nb; omega))) hin0 2 (by decide) (by decide +kernel) dX2_makeRoom_27 ?_
      refine lv_iload_n hx hb dX2_makeRoom_30 rfl (lv_at hl 3 rfl) ?_
      refine lv_icmp_lt (tgt := 36) hx hb dX2_makeRoom_31 (by decide) (fun c_31 => ?_) (fun c_31 => ?_)
      · skip
        refine lv_aload_n hx hb dX2_makeRoom_36 rfl (lv_at hl 0 rfl) ?_
        refine lv_iload_n hx hb dX2_makeRoom_37 rfl (lv_at hl 2 rfl) ?_
        refine x_callVv (rest := []) B G (c_X0_leave l Cx V (20 + 4 * od (cLast V od n nb - 1)) (Bs (od (cLast V od n nb - 1)) (od_lt (cLast V od n nb - 1) (by have := cLast_le V od n nb; omega))) n (by omega)) (cwV 1 B.1.2.2.2.2 gX2_makeRoom_X0_leave rfl rfl rfl (by decide +kernel) ⟨Nat.le_of_ble_eq_true rfl, Nat.le_of_ble_eq_true rfl⟩) (b_recv B G (Bs (od (cLast V od n nb - 1)) (od_lt (cLast V od n nb - 1) (by have := cLast_le V od n nb; omega)))) rfl hl.1 rfl (Nat.le_of_ble_eq_true rfl) ⟨Nat.zero_le _, Nat.zero_le _⟩ dX2_makeRoom_38 (fun H locs G => ?_)
        refine lv_aload_n hx hb dX2_makeRoom_41 rfl (lv_at hl 1 rfl) ?_
        refine d_getA B G Dl hin2 2 (by decide) (by decide +kernel) dX2_makeRoom_42 ?_
        refine lv_iload_n hx hb dX2_makeRoom_45 rfl (lv_at hl 2 rfl) ?_
        refine lv_dup2_11 hx hb dX2_makeRoom_46 rfl rfl ?_
        refine x_ald B G (2) Dl.2.2.1 0 Cx.1 n (show n < 8 from by omega) rfl (by decide) dX2_makeRoom_47 ?_
        refine x_top (show _ = V 2 n from (by rw [bPut_o _ _ _ _ _ (by omega) (by omega)])) ?_
        refine lv_iconst (v := 1) hx hb dX2_makeRoom_48 (by decide) ?_
        refine lv_iadd hx hb dX2_makeRoom_49 ?_
        refine x_ast B G (2) Dl.2.2.1 0 Cx.1 n (show n < 8 from by omega) rfl (by decide) dX2_makeRoom_50 (fun H locs G => ?_)
        refine lv_iconst (v := 1) hx hb dX2_makeRoom_51 (by decide) ?_
        exact x_zret B G (Or.inr rfl) (by unfold cRoomB; rw [if_pos c_11, if_neg hz, decide_eq_true c_31]; exact b2i_true.symm) (by unfold cRoomV; rw [if_pos c_11, if_neg hz, if_pos c_31]) dX2_makeRoom_52
      · skip
        refine lv_iconst (v := 0) hx hb dX2_makeRoom_34 (by decide) ?_
        exact x_zret B G (Or.inl rfl) (by unfold cRoomB; rw [if_pos c_11, if_neg hz, decide_eq_false c_31]; exact b2i_false.symm) (by unfold cRoomV; rw [if_pos c_11, if_neg hz, if_neg c_31]) dX2_makeRoom_35
  · skip
    refine lv_iconst (v := 1) hx hb dX2_makeRoom_14 (by decide) ?_
    exact x_zret B G (Or.inr rfl) (by unfold cRoomB; rw [if_neg c_11]; exact b2i_true.symm) (by unfold cRoomV; rw [if_neg c_11]) dX2_makeRoom_15
