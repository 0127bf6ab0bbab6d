/-- how things stand at the loop's head: t rounds done, i the place in the script -/
def LSt (D : va_G) (tys : List (ClassId × FieldType)) (cI cJ : ClassId) (shm : xS) (adm : Nat → Nat) (LI : Nat → xS → (Nat → Nat) → xV → xV → Prop) (b : Nat) (p : Program) (s : State) (m : MethodId) (args : Array Value) (meth : Method) (c : Code) (A : Nat → Prop) (t i : Nat) (sh : xS) (ad : Nat → Nat) (V Vm : xV) (H : Heap) (locs : List Loc) (ls : Array Slot) : Prop :=
  xB p s m args meth c cL_law 7 (some .boolean) wsL_law RL D sh ad A tys ∧ xG D sh ad A s.heap V H locs ∧ xW D shm adm Vm H ∧ xApart sh ad shm adm ∧ LI t sh ad V Vm ∧ (xDo sh ad cI ∧ sh 16 = some (oMk cJ)) ∧ lv_has ls 7 [(0, .ref b), (1, .ref (ad 0)), (2, .ref (adm 17)), (3, .ref (ad 16)), (4, .int (nI i))]
/-- what an operation owes: the wrapper and the reference agree -/
def LawP (l : Launch) (D : va_G) (tys : List (ClassId × FieldType)) (mi e0 : Nat) (sa : Nat → Nat) (shm : xS) (adm : Nat → Nat) (LI : Nat → xS → (Nat → Nat) → xV → xV → Prop) (yw : MethodName) (wsw : List Cond) (ym : MethodName) (wsm : List Cond) (lv n : Nat) : Prop :=
  ∀ (t : Nat) (sh : xS) (ad : Nat → Nat) (V Vm : xV) (xs : List Int32), xs.length = n → t < 512 → LI t sh ad V Vm → ∃ (r o : Int32) (Vm' : xV),
    xMw l yw wsw D sh ad tys mi e0 sa V (.ref (ad 0) :: (xs.map .int ++ [.ref (ad 16)])) (fun v sh' ad' V' => v = some (.int r) ∧ LI (t + 1) sh' ad' V' Vm' ∧ ad' 0 = ad 0 ∧ ad' 16 = ad 16 ∧ (r = 0 → V' 16 0 = o)) ∧
    xMi l ym wsm (rmK lv) D shm adm tys Vm (.ref (adm 17) :: xs.map .int) o Vm' ∧ Vm' 17 20 = r
/-- .. of a boolean -/
def LawB (l : Launch) (D : va_G) (tys : List (ClassId × FieldType)) (mi e0 : Nat) (sa : Nat → Nat) (shm : xS) (adm : Nat → Nat) (LI : Nat → xS → (Nat → Nat) → xV → xV → Prop) (yw : MethodName) (wsw : List Cond) (ym : MethodName) (wsm : List Cond) (lv n : Nat) : Prop :=
  ∀ (t : Nat) (sh : xS) (ad : Nat → Nat) (V Vm : xV) (xs : List Int32), xs.length = n → t < 512 → LI t sh ad V Vm → ∃ (r o : Int32) (Vm' : xV),
    xMw l yw wsw D sh ad tys mi e0 sa V (.ref (ad 0) :: (xs.map .int ++ [.ref (ad 16)])) (fun v sh' ad' V' => v = some (.int r) ∧ LI (t + 1) sh' ad' V' Vm' ∧ ad' 0 = ad 0 ∧ ad' 16 = ad 16 ∧ (r = 0 → V' 16 0 = o)) ∧
    xMi l ym wsm (rmK lv) D shm adm tys Vm (.ref (adm 17) :: xs.map .int) o Vm' ∧ Vm' 17 20 = r ∧ (o = 0 ∨ o = 1)
/-- .. and one that cannot fail -/
def LawQ (l : Launch) (D : va_G) (tys : List (ClassId × FieldType)) (shm : xS) (adm : Nat → Nat) (LI : Nat → xS → (Nat → Nat) → xV → xV → Prop) (yc : MethodName) (wsc : List Cond) (lc : Nat) (ym : MethodName) (wsm : List Cond) (lv : Nat) : Prop :=
  ∀ (t : Nat) (sh : xS) (ad : Nat → Nat) (V Vm : xV), t < 512 → LI t sh ad V Vm → ∃ (o : Int32) (Vm' : xV),
    xMi l yc wsc (rmK lc) D sh ad tys V [.ref (ad 0)] o V ∧ xMi l ym wsm (rmK lv) D shm adm tys Vm [.ref (adm 17)] o Vm' ∧ LI (t + 1) sh ad V Vm'
theorem l_cmp0 {x y : Int64} (h : x = y) : lg_cmp x y = 0 := by
  subst h
  unfold lg_cmp
  rw [if_neg (by simp), if_pos rfl]
theorem xB.of {p : Program} {s : State} {m : MethodId} {args : Array Value} {meth : Method} {c : Code} {cc : ByteArray} {nL : Nat} {ret : Option FieldType} {Ts : List Cond} {own : String} {D : va_G} {sh shm : xS} {ad adm : Nat → Nat} {A : Nat → Prop} {tys : List (ClassId × FieldType)} (B : xB p s m args meth c cc nL ret Ts own D sh ad A tys) (hI : xI shm adm) (hA : ∀ (i : Nat) (mk : (Nat → Int32) → va_E), shm i = some mk → A (adm i)) : xB p s m args meth c cc nL ret Ts own D shm adm A tys :=
  ⟨B.1, B.2.1, B.2.2.1, B.2.2.2.1, hI, hA, B.2.2.2.2.2.2⟩
set_option maxHeartbeats 1000000 in
set_option maxRecDepth 100000 in
theorem law_endOf {p : Program} (l : Launch) {e : Env} {s : State} {m : MethodId} {args : Array Value} {below : List Frame} {meth : Method} {c : Code} {A : Nat → Prop} {D : va_G} {tys : List (ClassId × FieldType)} {cI cJ : ClassId} {mi e0 : Nat} {sa : Nat → Nat} {shm : xS} {adm : Nat → Nat} {LI : Nat → xS → (Nat → Nat) → xV → xV → Prop} {b L : Nat} {xs : Nat → Int32} {Q : State → Prop} (E : xE mi e0 A s s.heap) (F : xF sa A s s.heap) (hN : xN s) (hX : va_X b L xs s s.heap) (hbl : b < s.heap.size) (hbA : ¬ A b) (hL : L ≤ 3072) (Mm : xMm shm adm cI tys) (hAm : ∀ (i : Nat) (mk : (Nat → Int32) → va_E), shm i = some mk → A (adm i)) (hT3 : tys[3]? = some (cJ, .long)) (hDo9 : ∀ t sh ad V Vm, LI t sh ad V Vm → xDo sh ad cI ∧ sh 16 = some (oMk cJ))
    (hP : LawP l D tys mi e0 sa shm adm LI yL_endOf wsL_endOf yX3_endOf wsX3_endOf 2 1) {t i cells slots : Nat} (ht : t < 512) (hi : i + 6 ≤ L) (hcs : cells + 8 ≤ room_1.cells ∧ slots + 180 ≤ room_1.slots) {sh : xS} {ad : Nat → Nat} {V Vm : xV} {H : Heap} {locs : List Loc} {ls : Array Slot} (hS : LSt D tys cI cJ shm adm LI b p s m args meth c A t i sh ad V Vm H locs ls)
    (cont : ∀ (sh : xS) (ad : Nat → Nat) (V Vm : xV) (H : Heap) (locs : List Loc) (ls : Array Slot), LSt D tys cI cJ shm adm LI b p s m args meth c A (t + 1) i sh ad V Vm H locs ls → W p l e room_1 s m args below meth c H locs (cells + 8) (slots + 180) Q (F0 m 1417 ls [])) :
    W p l e room_1 s m args below meth c H locs cells slots Q (F0 m 566 ls []) := by
  obtain ⟨B, G, Gm, hap, hLI, hDo, hl⟩ := hS
  have hx := B.1.1
  have hb := B.1.2.1
  have hIm := Mm.2.2
  have hcc : room_1.cells = 601024 := rfl
  have hcd : room_1.slots = 7293034 := rfl
  obtain ⟨r, o, Vm', hW, hM, hthr⟩ := hP t sh ad V Vm [xs (i + 1)] rfl ht hLI
  refine lv_aload_n hx hb dL_law_566 rfl (lv_at hl 1 rfl) ?_
  refine lv_aload_n hx hb dL_law_567 rfl (lv_at hl 0 rfl) ?_
  refine lv_iload hx hb dL_law_568 (lv_at hl 4 rfl) ?_
  refine lv_iconst (v := 1) hx hb dL_law_570 (by decide) ?_
  refine lv_iadd hx hb dL_law_571 ?_
  refine x_top (show (nI i) + 1 = nI (i + 1) from nI_add i 1) ?_
  refine va_sld hx hb hX hbl hbA G.2 (vp_in_nI (show i + 1 < L by omega) (by omega)) dL_law_572 ?_
  rw [nI_clamp (show i + 1 < 2 ^ 31 by omega)]
  refine lv_aload_n hx hb dL_law_573 rfl (lv_at hl 3 rfl) ?_
  refine x_callSw (rest := []) (fun H1 => xW D shm adm Vm H1) B E F hN G (fun H1 hz hk => Gm.keepK hap hk) hW (vx_cwSW 3 B.1.2.2.2.2 gL_law_L_endOf rfl rfl rfl (by decide +kernel) ⟨Nat.le_of_ble_eq_true rfl, Nat.le_of_ble_eq_true rfl⟩) rfl hl.1 rfl (Nat.le_of_ble_eq_true rfl) hcs dL_law_574 (fun v sh1 ad1 V1 H1 locs hR Gm1 hA1 B G => ?_)
  obtain ⟨rfl, hLI1, e_0, e_16, hans⟩ := hR
  have hap1 := hap.after Gm hA1
  have hDo1 := hDo9 _ _ _ _ _ hLI1
  have hl : lv_has ls 7 [(0, .ref b), (1, .ref (ad1 0)), (2, .ref (adm 17)), (3, .ref (ad1 16)), (4, .int (nI i))] := lv_cast hl (by rw [e_0, e_16])
  refine W.eq (g2 := F0 m 577 ls [.int r]) rfl ?_
  refine lv_istore (lv' := [(5, .int r), (0, .ref b), (1, .ref (ad1 0)), (2, .ref (adm 17)), (3, .ref (ad1 16)), (4, .int (nI i))]) hx hb dL_law_577 hl (by decide) rfl (fun ls hl => ?_)
  refine lv_aload_n hx hb dL_law_579 rfl (lv_at hl 3 rfl) ?_
  refine lv_aload_n hx hb dL_law_580 rfl (lv_at hl 1 rfl) ?_
  refine lv_iload hx hb dL_law_581 (lv_at hl 5 rfl) ?_
  refine lv_iconst (v := 1) hx hb dL_law_583 (by decide) ?_
  refine lv_iadd hx hb dL_law_584 ?_
  refine x_top (show (nI i) + 1 = nI (i + 1) from nI_add i 1) ?_
  refine va_sld hx hb hX hbl hbA G.2 (vp_in_nI (show i + 1 < L by omega) (by omega)) dL_law_585 ?_
  rw [nI_clamp (show i + 1 < 2 ^ 31 by omega)]
  refine x_callViK (rest := []) (fun H1 => xW D sh1 ad1 V1 H1) (xB.of B hIm hAm) ⟨Gm1, G.2⟩ (fun H1 hz hk => (show xW D sh1 ad1 V1 _ from G.1).keepK hap1.symm hk) hM (cwV 1 B.1.2.2.2.2 gL_law_X3_endOf rfl rfl rfl (by decide +kernel) ⟨Nat.le_of_ble_eq_true rfl, Nat.le_of_ble_eq_true rfl⟩) (x_recv (xB.of B hIm hAm) ⟨Gm1, G.2⟩ 17 (q := (RX3, TX3, 21)) Mm.2.1.1 rfl) rfl hl.1 rfl (Nat.le_of_ble_eq_true rfl) ⟨by omega, by omega⟩ dL_law_586 (fun H2 locs Gc G2 => ?_)
  have Gm2 := G2.1
  have G : xG D sh1 ad1 A s.heap V1 H2 locs := ⟨Gc, G2.2⟩
  refine lv_istore (lv' := [(6, .int o), (5, .int r), (0, .ref b), (1, .ref (ad1 0)), (2, .ref (adm 17)), (3, .ref (ad1 16)), (4, .int (nI i))]) hx hb dL_law_589 hl (by decide) rfl (fun ls hl => ?_)
  refine lv_aload_n hx hb dL_law_591 rfl (lv_at hl 4 rfl) ?_
  refine x_callViK (rest := []) (fun H1 => xW D sh1 ad1 V1 H1) (xB.of B hIm hAm) ⟨Gm2, G.2⟩ (fun H1 hz hk => (show xW D sh1 ad1 V1 _ from G.1).keepK hap1.symm hk) (c_X3_thrown l Mm Vm') (cwV 0 B.1.2.2.2.2 gL_law_X3_thrown rfl rfl rfl (by decide +kernel) ⟨Nat.le_of_ble_eq_true rfl, Nat.le_of_ble_eq_true rfl⟩) (x_recv (xB.of B hIm hAm) ⟨Gm2, G.2⟩ 17 (q := (RX3, TX3, 21)) Mm.2.1.1 rfl) rfl hl.1 rfl (Nat.le_of_ble_eq_true rfl) ⟨by omega, by omega⟩ dL_law_592 (fun H3 locs Gc G3 => ?_)
  have Gm3 := G3.1
  have G : xG D sh1 ad1 A s.heap V1 H3 locs := ⟨Gc, G3.2⟩
  refine lv_iload hx hb dL_law_595 (lv_at hl 1 rfl) ?_
  refine lv_icmp_eq (tgt := 602) hx hb dL_law_597 (by decide) (fun c_597 => ?_) (fun c_597 => ?_)
  · skip
    refine lv_iload hx hb dL_law_602 (lv_at hl 1 rfl) ?_
    refine lv_if_ne (tgt := 619) hx hb dL_law_604 (by decide) (fun c_604 => ?_) (fun c_604 => ?_)
    · skip
      refine lv_goto (tgt := 1417) hx hb dL_law_619 (by decide) ?_
      have hl := lv_sub (l' := [(0, .ref b), (1, .ref (ad1 0)), (2, .ref (adm 17)), (3, .ref (ad1 16)), (4, .int (nI i))]) hl [2, 3, 4, 5, 6] rfl
      exact cont sh1 ad1 V1 Vm' H3 locs ls ⟨B, G, Gm3, hap1, hLI1, hDo1, hl⟩
    · skip
      refine lv_aload_n hx hb dL_law_607 rfl (lv_at hl 5 rfl) ?_
      refine lv_iconst (v := 0) hx hb dL_law_608 (by decide) ?_
      refine x_lld B G hDo1.2 hT3 dL_law_609 ?_
      refine lv_iload hx hb dL_law_610 (lv_at hl 0 rfl) ?_
      refine lv_i2l hx hb dL_law_612 rfl ?_
      refine W.lcmp hx hb dL_law_613 ?_
      refine x_top (show _ = 0 from l_cmp0 (by rw [hans c_604])) ?_
      refine lv_if_eq (tgt := 619) hx hb dL_law_614 (by decide) (fun c_614 => ?_) (fun c_614 => ?_)
      · skip
        refine lv_goto (tgt := 1417) hx hb dL_law_619 (by decide) ?_
        have hl := lv_sub (l' := [(0, .ref b), (1, .ref (ad1 0)), (2, .ref (adm 17)), (3, .ref (ad1 16)), (4, .int (nI i))]) hl [2, 3, 4, 5, 6] rfl
        exact cont sh1 ad1 V1 Vm' H3 locs ls ⟨B, G, Gm3, hap1, hLI1, hDo1, hl⟩
      · exact False.elim (c_614 (by decide))
  · exact False.elim (c_597 hthr)
