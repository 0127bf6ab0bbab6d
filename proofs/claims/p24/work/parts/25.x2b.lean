def cTalk (V : xV) (a b : Nat) : Nat → xV
  | 0 => V
  | k + 1 => if cTalk V a b k (20 + 4 * k + 3) a = 0 ∧ cTalk V a b k (20 + 4 * k + 3) b = 0 then cTalk V a b k else bLearn (bLearn (cTalk V a b k) (20 + 4 * k) a) (20 + 4 * k) b
theorem cTalk_o (V : xV) (a b k : Nat) {i : Nat} (h : i < 20) : cTalk V a b k i = V i := by
  induction k with
  | zero => rfl
  | succ k ih =>
    unfold cTalk
    split
    · exact ih
    · rw [bLearn_o _ _ _ (by omega) (by omega) (by omega) (by omega), bLearn_o _ _ _ (by omega) (by omega) (by omega) (by omega), ih]
set_option maxHeartbeats 4000000 in
set_option maxRecDepth 100000 in
theorem c_X2_exchangeReceipts (l : Launch) {D : va_G} {sh : xS} {ad : Nat → Nat} {cI cZ cO : ClassId} {tys : List (ClassId × FieldType)} {nb : Nat} {od : Nat → Nat} (DL : xDl sh ad cI cZ cO tys nb od) (V : xV) (h4 : V 4 2 = nI nb) (h5 : V 5 2 = nI nb) (a b : Nat) (ha : a < 8) (hb8 : b < 8) : xMv l yX2_exchangeReceipts wsX2_exchangeReceipts (rmK 3) D sh ad tys V [.ref (ad 0), .int (nI a), .int (nI b)] (cTalk V a b nb) := by
  refine xOfv (cc := cX2_exchangeReceipts) (nL := 5) (ret := none) (own := RX2) (by decide) rfl rfl (Nat.le_of_ble_eq_true rfl) DL.2.2.2.2.2.2.1.2.2 ?_
  intro p e s m args below meth c A ls B G hl
  have hx := B.1.1
  have hb := B.1.2.1
  have hin0 : ∀ w ∈ wsX00, w ∈ wsX2_exchangeReceipts := by decide +kernel
  have hin2 : ∀ w ∈ wsX20, w ∈ wsX2_exchangeReceipts := by decide +kernel
  have hinL : ∀ w ∈ wsJx4a65c0, w ∈ wsX2_exchangeReceipts := by decide +kernel
  have hl : lv_has ls 5 [(0, .ref (ad 0)), (1, .int (nI a)), (2, .int (nI b))] := hl
  obtain ⟨Dl, Pl, L4, L5, Bs, od_lt, Cx, tO, hn40⟩ := id DL
  obtain ⟨a4, s4, -⟩ := id L4
  obtain ⟨a5, s5, -⟩ := id L5
  refine lv_iconst (v := 0) hx hb dX2_exchangeReceipts_0 (by decide) ?_
  refine lv_istore_n (lv' := [(3, .int 0), (0, .ref (ad 0)), (1, .int (nI a)), (2, .int (nI b))]) hx hb dX2_exchangeReceipts_1 rfl hl (by decide) rfl (fun ls hl => ?_)
  have loop_2 : ∀ (f i : Nat), i ≤ nb → nb < i + f → ∀ (H : Heap) (locs : List Loc) (ls : Array Slot), xG D sh ad A s.heap (cTalk V a b i) H locs → lv_has ls 5 [(0, .ref (ad 0)), (1, .int (nI a)), (2, .int (nI b)), (3, .int (nI i))] → W p l e (rmK 3) s m args below meth c H locs 0 0 (xQv below D sh ad tys A args s (cTalk V a b nb)) (F0 m 2 ls []) := by
    intro f
    induction f with
    | zero => intro i h1 h2; exact absurd h2 (by omega)
    | succ f ih_2 =>
      intro i hi hf H locs ls G hl
      refine lv_iload_n hx hb dX2_exchangeReceipts_2 rfl (lv_at hl 3 rfl) ?_
      refine lv_aload_n hx hb dX2_exchangeReceipts_3 rfl (lv_at hl 0 rfl) ?_
      refine d_getA B G Dl hin2 4 (by decide) (by decide +kernel) dX2_exchangeReceipts_4 ?_
      refine x_callVi (rest := [.int (nI i)]) B G (c_size l Cx.2.2 (cTalk V a b i) 4 s4) (cwV 0 B.1.2.2.2.2 gX2_exchangeReceipts_Jx4a65c_size_8abf5 rfl rfl rfl (by decide +kernel) ⟨Nat.le_of_ble_eq_true rfl, Nat.le_of_ble_eq_true rfl⟩) (l_recv B G 4 s4) rfl hl.1 rfl (Nat.le_of_ble_eq_true rfl) ⟨Nat.zero_le _, Nat.zero_le _⟩ dX2_exchangeReceipts_7 (fun H locs G => ?_)
      refine x_top (show _ = nI nb from (congrFun (cTalk_o V a b i (i := 4) (by omega)) 2).trans h4) ?_
      refine lv_icmp_ge (tgt := 64) hx hb dX2_exchangeReceipts_10 (by decide) (fun c_10 => ?_) (fun c_10 => ?_)
      · skip
        have c_10 : nb ≤ i := (nI_leI (a := nb) (b := i) (by omega) (by omega)).mp c_10
        exact x_vret B G (by rw [show i = nb by omega]) dX2_exchangeReceipts_64
      · skip
        have c_10 : ¬ (nb ≤ i) := fun h9 => c_10 ((nI_leI (a := nb) (b := i) (by omega) (by omega)).mpr h9)
        refine lv_aload_n hx hb dX2_exchangeReceipts_13 rfl (lv_at hl 0 rfl) ?_
        refine d_getA B G Dl hin2 4 (by decide) (by decide +kernel) dX2_exchangeReceipts_14 ?_
        refine lv_iload_n hx hb dX2_exchangeReceipts_17 rfl (lv_at hl 3 rfl) ?_
        refine x_callVq (rest := []) B G (c_get l tO Cx.2.2 (cTalk V a b i) L4 i (by omega) (by omega) ((congrFun (cTalk_o V a b i (i := 4) (by omega)) 2).trans h4)) (cwV 1 B.1.2.2.2.2 gX2_exchangeReceipts_Jx4a65c_get_915e3 rfl rfl rfl (by decide +kernel) ⟨Nat.le_of_ble_eq_true rfl, Nat.le_of_ble_eq_true rfl⟩) (l_recv B G 4 s4) rfl hl.1 rfl (Nat.le_of_ble_eq_true rfl) ⟨Nat.zero_le _, Nat.zero_le _⟩ dX2_exchangeReceipts_18 (fun H locs G => ?_)
        refine x_cast B G (20 + 4 * i) (Bs i (by omega)).1 (q := (RX0, TX0, 11)) rfl (by decide +kernel) dX2_exchangeReceipts_21 ?_
        refine lv_astore (lv' := [(4, .ref (ad (20 + 4 * i))), (0, .ref (ad 0)), (1, .int (nI a)), (2, .int (nI b)), (3, .int (nI i))]) hx hb dX2_exchangeReceipts_24 hl (by decide) rfl (fun ls hl => ?_)
        refine lv_aload hx hb dX2_exchangeReceipts_26 (lv_at hl 0 rfl) ?_
        refine b_getA B G (Bs i (by omega)) hin0 6 (by decide) (by decide +kernel) dX2_exchangeReceipts_28 ?_
        refine lv_iload_n hx hb dX2_exchangeReceipts_31 rfl (lv_at hl 2 rfl) ?_
        refine x_zald B G (20 + 4 * i + 3) (Bs i (by omega)).2.2.2 1 Cx.2.1 a (show a < 8 from by omega) rfl (by decide) dX2_exchangeReceipts_32 ?_
        refine lv_if_ne (tgt := 46) hx hb dX2_exchangeReceipts_33 (by decide) (fun c_33 => ?_) (fun c_33 => ?_)
        · skip
          refine lv_aload hx hb dX2_exchangeReceipts_46 (lv_at hl 0 rfl) ?_
          refine lv_iload_n hx hb dX2_exchangeReceipts_48 rfl (lv_at hl 2 rfl) ?_
          refine x_callVv (rest := []) B G (c_X0_learn l Cx (cTalk V a b i) (20 + 4 * i) (Bs i (by omega)) a (by omega)) (cwV 1 B.1.2.2.2.2 gX2_exchangeReceipts_X0_learn rfl rfl rfl (by decide +kernel) ⟨Nat.le_of_ble_eq_true rfl, Nat.le_of_ble_eq_true rfl⟩) (b_recv B G (Bs i (by omega))) rfl hl.1 rfl (Nat.le_of_ble_eq_true rfl) ⟨Nat.zero_le _, Nat.zero_le _⟩ dX2_exchangeReceipts_49 (fun H locs G => ?_)
          refine lv_aload hx hb dX2_exchangeReceipts_52 (lv_at hl 0 rfl) ?_
          refine lv_iload_n hx hb dX2_exchangeReceipts_54 rfl (lv_at hl 3 rfl) ?_
          refine x_callVv (rest := []) B G (c_X0_learn l Cx (bLearn (cTalk V a b i) (20 + 4 * i) a) (20 + 4 * i) (Bs i (by omega)) b (by omega)) (cwV 1 B.1.2.2.2.2 gX2_exchangeReceipts_X0_learn rfl rfl rfl (by decide +kernel) ⟨Nat.le_of_ble_eq_true rfl, Nat.le_of_ble_eq_true rfl⟩) (b_recv B G (Bs i (by omega))) rfl hl.1 rfl (Nat.le_of_ble_eq_true rfl) ⟨Nat.zero_le _, Nat.zero_le _⟩ dX2_exchangeReceipts_55 (fun H locs G => ?_)
          refine lv_iinc (v := nI (i + 1)) (lv' := [(3, .int (nI (i + 1))), (4, .ref (ad (20 + 4 * i))), (0, .ref (ad 0)), (1, .int (nI a)), (2, .int (nI b))]) hx hb dX2_exchangeReceipts_58 hl (k := 4) rfl (nI_add i 1) (by decide) rfl (fun ls hl => ?_)
          refine lv_goto (tgt := 2) hx hb dX2_exchangeReceipts_61 (by decide) ?_
          have hl := lv_sub (l' := [(0, .ref (ad 0)), (1, .int (nI a)), (2, .int (nI b)), (3, .int (nI (i + 1)))]) hl [2, 3, 4, 0] rfl
          have eV : bLearn (bLearn (cTalk V a b i) (20 + 4 * i) a) (20 + 4 * i) b = cTalk V a b (i + 1) := (if_neg (fun z => c_33 z.1)).symm
          rw [eV] at G
          exact ih_2 (i + 1) (by omega) (by omega) _ _ _ G hl
        · skip
          refine lv_aload hx hb dX2_exchangeReceipts_36 (lv_at hl 0 rfl) ?_
          refine b_getA B G (Bs i (by omega)) hin0 6 (by decide) (by decide +kernel) dX2_exchangeReceipts_38 ?_
          refine lv_iload_n hx hb dX2_exchangeReceipts_41 rfl (lv_at hl 3 rfl) ?_
          refine x_zald B G (20 + 4 * i + 3) (Bs i (by omega)).2.2.2 1 Cx.2.1 b (show b < 8 from by omega) rfl (by decide) dX2_exchangeReceipts_42 ?_
          refine lv_if_eq (tgt := 58) hx hb dX2_exchangeReceipts_43 (by decide) (fun c_43 => ?_) (fun c_43 => ?_)
          · skip
            refine lv_iinc (v := nI (i + 1)) (lv' := [(3, .int (nI (i + 1))), (4, .ref (ad (20 + 4 * i))), (0, .ref (ad 0)), (1, .int (nI a)), (2, .int (nI b))]) hx hb dX2_exchangeReceipts_58 hl (k := 4) rfl (nI_add i 1) (by decide) rfl (fun ls hl => ?_)
            refine lv_goto (tgt := 2) hx hb dX2_exchangeReceipts_61 (by decide) ?_
            have hl := lv_sub (l' := [(0, .ref (ad 0)), (1, .int (nI a)), (2, .int (nI b)), (3, .int (nI (i + 1)))]) hl [2, 3, 4, 0] rfl
            have eV : cTalk V a b i = cTalk V a b (i + 1) := (if_pos ⟨c_33, c_43⟩).symm
            rw [eV] at G
            exact ih_2 (i + 1) (by omega) (by omega) _ _ _ G hl
          · skip
            refine lv_aload hx hb dX2_exchangeReceipts_46 (lv_at hl 0 rfl) ?_
            refine lv_iload_n hx hb dX2_exchangeReceipts_48 rfl (lv_at hl 2 rfl) ?_
            refine x_callVv (rest := []) B G (c_X0_learn l Cx (cTalk V a b i) (20 + 4 * i) (Bs i (by omega)) a (by omega)) (cwV 1 B.1.2.2.2.2 gX2_exchangeReceipts_X0_learn rfl rfl rfl (by decide +kernel) ⟨Nat.le_of_ble_eq_true rfl, Nat.le_of_ble_eq_true rfl⟩) (b_recv B G (Bs i (by omega))) rfl hl.1 rfl (Nat.le_of_ble_eq_true rfl) ⟨Nat.zero_le _, Nat.zero_le _⟩ dX2_exchangeReceipts_49 (fun H locs G => ?_)
            refine lv_aload hx hb dX2_exchangeReceipts_52 (lv_at hl 0 rfl) ?_
            refine lv_iload_n hx hb dX2_exchangeReceipts_54 rfl (lv_at hl 3 rfl) ?_
            refine x_callVv (rest := []) B G (c_X0_learn l Cx (bLearn (cTalk V a b i) (20 + 4 * i) a) (20 + 4 * i) (Bs i (by omega)) b (by omega)) (cwV 1 B.1.2.2.2.2 gX2_exchangeReceipts_X0_learn rfl rfl rfl (by decide +kernel) ⟨Nat.le_of_ble_eq_true rfl, Nat.le_of_ble_eq_true rfl⟩) (b_recv B G (Bs i (by omega))) rfl hl.1 rfl (Nat.le_of_ble_eq_true rfl) ⟨Nat.zero_le _, Nat.zero_le _⟩ dX2_exchangeReceipts_55 (fun H locs G => ?_)
            refine lv_iinc (v := nI (i + 1)) (lv' := [(3, .int (nI (i + 1))), (4, .ref (ad (20 + 4 * i))), (0, .ref (ad 0)), (1, .int (nI a)), (2, .int (nI b))]) hx hb dX2_exchangeReceipts_58 hl (k := 4) rfl (nI_add i 1) (by decide) rfl (fun ls hl => ?_)
            refine lv_goto (tgt := 2) hx hb dX2_exchangeReceipts_61 (by decide) ?_
            have hl := lv_sub (l' := [(0, .ref (ad 0)), (1, .int (nI a)), (2, .int (nI b)), (3, .int (nI (i + 1)))]) hl [2, 3, 4, 0] rfl
            have eV : bLearn (bLearn (cTalk V a b i) (20 + 4 * i) a) (20 + 4 * i) b = cTalk V a b (i + 1) := (if_neg (fun z => c_43 z.2)).symm
            rw [eV] at G
            exact ih_2 (i + 1) (by omega) (by omega) _ _ _ G hl
  have hl := lv_sub (l' := [(0, .ref (ad 0)), (1, .int (nI a)), (2, .int (nI b)), (3, .int 0)]) hl [1, 2, 3, 0] rfl
  have hl := lv_cast hl (congrArg (fun z : Int32 => ([(0, .ref (ad 0)), (1, .int (nI a)), (2, .int (nI b)), (3, .int z)] : List (Nat × Value))) (show 0 = nI 0 from rfl))
  have eV : V = cTalk V a b 0 := rfl
  rw [eV] at G
  exact loop_2 (nb + 1) 0 (by omega) (by omega) _ _ _ G hl
abbrev cCan (V : xV) (b f t : Nat) : Prop := ¬ V b 1 = nI f ∧ ¬ V b 1 = nI t ∧ ¬ V (b + 1) f < 2 ∧ ¬ 0 < V (b + 1) t
theorem cCan_x (V : xV) (b f t : Nat) (x : Int32) : cCan (xu V b 10 x) b f t ↔ cCan V b f t := by
  unfold cCan
  rw [xu_row, if_neg (by decide), xu_ne _ _ _ (show b + 1 ≠ b by omega)]
def cFind (V : xV) (a b : Nat) : Nat → xV
  | 0 => V
  | k + 1 => (fun W : xV => if cCan W (20 + 4 * k) a b then xu W (20 + 4 * k) 10 (nI a) else if cCan W (20 + 4 * k) b a then xu W (20 + 4 * k) 10 (nI b) else W) (xu (cFind V a b k) (20 + 4 * k) 10 (-1))
theorem cFind_1 {V : xV} {a b k : Nat} (h : cCan (xu (cFind V a b k) (20 + 4 * k) 10 (-1)) (20 + 4 * k) a b) : cFind V a b (k + 1) = xu (xu (cFind V a b k) (20 + 4 * k) 10 (-1)) (20 + 4 * k) 10 (nI a) := if_pos h
theorem cFind_2 {V : xV} {a b k : Nat} (h : ¬ cCan (xu (cFind V a b k) (20 + 4 * k) 10 (-1)) (20 + 4 * k) a b) (h2 : cCan (xu (cFind V a b k) (20 + 4 * k) 10 (-1)) (20 + 4 * k) b a) : cFind V a b (k + 1) = xu (xu (cFind V a b k) (20 + 4 * k) 10 (-1)) (20 + 4 * k) 10 (nI b) := (if_neg h).trans (if_pos h2)
theorem cFind_3 {V : xV} {a b k : Nat} (h : ¬ cCan (xu (cFind V a b k) (20 + 4 * k) 10 (-1)) (20 + 4 * k) a b) (h2 : ¬ cCan (xu (cFind V a b k) (20 + 4 * k) 10 (-1)) (20 + 4 * k) b a) : cFind V a b (k + 1) = xu (cFind V a b k) (20 + 4 * k) 10 (-1) := (if_neg h).trans (if_neg h2)
theorem cFind_o (V : xV) (a b k : Nat) {i : Nat} (h : i < 20) : cFind V a b k i = V i := by
  induction k with
  | zero => rfl
  | succ k ih =>
    rcases Classical.em (cCan (xu (cFind V a b k) (20 + 4 * k) 10 (-1)) (20 + 4 * k) a b) with c | c
    · rw [cFind_1 c, xu_ne _ _ _ (by omega), xu_ne _ _ _ (by omega), ih]
    · rcases Classical.em (cCan (xu (cFind V a b k) (20 + 4 * k) 10 (-1)) (20 + 4 * k) b a) with d | d
      · rw [cFind_2 c d, xu_ne _ _ _ (by omega), xu_ne _ _ _ (by omega), ih]
      · rw [cFind_3 c d, xu_ne _ _ _ (by omega), ih]
set_option maxHeartbeats 4000000 in
set_option maxRecDepth 100000 in
theorem c_X2_findSprays (l : Launch) {D : va_G} {sh : xS} {ad : Nat → Nat} {cI cZ cO : ClassId} {tys : List (ClassId × FieldType)} {nb : Nat} {od : Nat → Nat} (DL : xDl sh ad cI cZ cO tys nb od) (V : xV) (h4 : V 4 2 = nI nb) (h5 : V 5 2 = nI nb) (a b : Nat) (ha : a < 8) (hb8 : b < 8) : xMv l yX2_findSprays wsX2_findSprays (rmK 3) D sh ad tys V [.ref (ad 0), .int (nI a), .int (nI b)] (cFind V a b nb) := by
  refine xOfv (cc := cX2_findSprays) (nL := 5) (ret := none) (own := RX2) (by decide) rfl rfl (Nat.le_of_ble_eq_true rfl) DL.2.2.2.2.2.2.1.2.2 ?_
  intro p e s m args below meth c A ls B G hl
  have hx := B.1.1
  have hb := B.1.2.1
  have hin0 : ∀ w ∈ wsX00, w ∈ wsX2_findSprays := by decide +kernel
  have hin2 : ∀ w ∈ wsX20, w ∈ wsX2_findSprays := by decide +kernel
  have hinL : ∀ w ∈ wsJx4a65c0, w ∈ wsX2_findSprays := by decide +kernel
  have hl : lv_has ls 5 [(0, .ref (ad 0)), (1, .int (nI a)), (2, .int (nI b))] := hl
  obtain ⟨Dl, Pl, L4, L5, Bs, od_lt, Cx, tO, hn40⟩ := id DL
  obtain ⟨a4, s4, -⟩ := id L4
  obtain ⟨a5, s5, -⟩ := id L5
  refine lv_iconst (v := 0) hx hb dX2_findSprays_0 (by decide) ?_
  refine lv_istore_n (lv' := [(3, .int 0), (0, .ref (ad 0)), (1, .int (nI a)), (2, .int (nI b))]) hx hb dX2_findSprays_1 rfl hl (by decide) rfl (fun ls hl => ?_)
  have loop_2 : ∀ (f i : Nat), i ≤ nb → nb < i + f → ∀ (H : Heap) (locs : List Loc) (ls : Array Slot), xG D sh ad A s.heap (cFind V a b i) H locs → lv_has ls 5 [(0, .ref (ad 0)), (1, .int (nI a)), (2, .int (nI b)), (3, .int (nI i))] → W p l e (rmK 3) s m args below meth c H locs 0 0 (xQv below D sh ad tys A args s (cFind V a b nb)) (F0 m 2 ls []) := by
    intro f
    induction f with
    | zero => intro i h1 h2; exact absurd h2 (by omega)
    | succ f ih_2 =>
      intro i hi hf H locs ls G hl
      refine lv_iload_n hx hb dX2_findSprays_2 rfl (lv_at hl 3 rfl) ?_
      refine lv_aload_n hx hb dX2_findSprays_3 rfl (lv_at hl 0 rfl) ?_
      refine d_getA B G Dl hin2 4 (by decide) (by decide +kernel) dX2_findSprays_4 ?_
      refine x_callVi (rest := [.int (nI i)]) B G (c_size l Cx.2.2 (cFind V a b i) 4 s4) (cwV 0 B.1.2.2.2.2 gX2_findSprays_Jx4a65c_size_8abf5 rfl rfl rfl (by decide +kernel) ⟨Nat.le_of_ble_eq_true rfl, Nat.le_of_ble_eq_true rfl⟩) (l_recv B G 4 s4) rfl hl.1 rfl (Nat.le_of_ble_eq_true rfl) ⟨Nat.zero_le _, Nat.zero_le _⟩ dX2_findSprays_7 (fun H locs G => ?_)
      refine x_top (show _ = nI nb from (congrFun (cFind_o V a b i (i := 4) (by omega)) 2).trans h4) ?_
      refine lv_icmp_ge (tgt := 73) hx hb dX2_findSprays_10 (by decide) (fun c_10 => ?_) (fun c_10 => ?_)
      · skip
        have c_10 : nb ≤ i := (nI_leI (a := nb) (b := i) (by omega) (by omega)).mp c_10
        exact x_vret B G (by rw [show i = nb by omega]) dX2_findSprays_73
      · skip
        have c_10 : ¬ (nb ≤ i) := fun h9 => c_10 ((nI_leI (a := nb) (b := i) (by omega) (by omega)).mpr h9)
        refine lv_aload_n hx hb dX2_findSprays_13 rfl (lv_at hl 0 rfl) ?_
        refine d_getA B G Dl hin2 4 (by decide) (by decide +kernel) dX2_findSprays_14 ?_
        refine lv_iload_n hx hb dX2_findSprays_17 rfl (lv_at hl 3 rfl) ?_
        refine x_callVq (rest := []) B G (c_get l tO Cx.2.2 (cFind V a b i) L4 i (by omega) (by omega) ((congrFun (cFind_o V a b i (i := 4) (by omega)) 2).trans h4)) (cwV 1 B.1.2.2.2.2 gX2_findSprays_Jx4a65c_get_915e3 rfl rfl rfl (by decide +kernel) ⟨Nat.le_of_ble_eq_true rfl, Nat.le_of_ble_eq_true rfl⟩) (l_recv B G 4 s4) rfl hl.1 rfl (Nat.le_of_ble_eq_true rfl) ⟨Nat.zero_le _, Nat.zero_le _⟩ dX2_findSprays_18 (fun H locs G => ?_)
        refine x_cast B G (20 + 4 * i) (Bs i (by omega)).1 (q := (RX0, TX0, 11)) rfl (by decide +kernel) dX2_findSprays_21 ?_
        refine lv_astore (lv' := [(4, .ref (ad (20 + 4 * i))), (0, .ref (ad 0)), (1, .int (nI a)), (2, .int (nI b)), (3, .int (nI i))]) hx hb dX2_findSprays_24 hl (by decide) rfl (fun ls hl => ?_)
        refine lv_aload hx hb dX2_findSprays_26 (lv_at hl 0 rfl) ?_
        refine lv_iconst (v := (-1)) hx hb dX2_findSprays_28 (by decide) ?_
        refine b_putI B G (Bs i (by omega)) hin0 10 (by decide) (by decide +kernel) dX2_findSprays_29 (fun H locs G => ?_)
        refine lv_aload hx hb dX2_findSprays_32 (lv_at hl 0 rfl) ?_
        refine lv_iload_n hx hb dX2_findSprays_34 rfl (lv_at hl 2 rfl) ?_
        refine lv_iload_n hx hb dX2_findSprays_35 rfl (lv_at hl 3 rfl) ?_
        refine x_callVi (rest := []) B G (c_X0_canSpray l Cx (xu (cFind V a b i) (20 + 4 * i) 10 (-1)) (20 + 4 * i) (Bs i (by omega)) a b (by omega) (by omega)) (cwV 2 B.1.2.2.2.2 gX2_findSprays_X0_canSpray rfl rfl rfl (by decide +kernel) ⟨Nat.le_of_ble_eq_true rfl, Nat.le_of_ble_eq_true rfl⟩) (b_recv B G (Bs i (by omega))) rfl hl.1 rfl (Nat.le_of_ble_eq_true rfl) ⟨Nat.zero_le _, Nat.zero_le _⟩ dX2_findSprays_36 (fun H locs G => ?_)
        refine lv_if_eq (tgt := 51) hx hb dX2_findSprays_39 (by decide) (fun c_39 => ?_) (fun c_39 => ?_)
        · skip
          refine lv_aload hx hb dX2_findSprays_51 (lv_at hl 0 rfl) ?_
          refine lv_iload_n hx hb dX2_findSprays_53 rfl (lv_at hl 3 rfl) ?_
          refine lv_iload_n hx hb dX2_findSprays_54 rfl (lv_at hl 2 rfl) ?_
          refine x_callVi (rest := []) B G (c_X0_canSpray l Cx (xu (cFind V a b i) (20 + 4 * i) 10 (-1)) (20 + 4 * i) (Bs i (by omega)) b a (by omega) (by omega)) (cwV 2 B.1.2.2.2.2 gX2_findSprays_X0_canSpray rfl rfl rfl (by decide +kernel) ⟨Nat.le_of_ble_eq_true rfl, Nat.le_of_ble_eq_true rfl⟩) (b_recv B G (Bs i (by omega))) rfl hl.1 rfl (Nat.le_of_ble_eq_true rfl) ⟨Nat.zero_le _, Nat.zero_le _⟩ dX2_findSprays_55 (fun H locs G => ?_)
          refine lv_if_eq (tgt := 67) hx hb dX2_findSprays_58 (by decide) (fun c_58 => ?_) (fun c_58 => ?_)
          · skip
            refine lv_iinc (v := nI (i + 1)) (lv' := [(3, .int (nI (i + 1))), (4, .ref (ad (20 + 4 * i))), (0, .ref (ad 0)), (1, .int (nI a)), (2, .int (nI b))]) hx hb dX2_findSprays_67 hl (k := 4) rfl (nI_add i 1) (by decide) rfl (fun ls hl => ?_)
            refine lv_goto (tgt := 2) hx hb dX2_findSprays_70 (by decide) ?_
            have hl := lv_sub (l' := [(0, .ref (ad 0)), (1, .int (nI a)), (2, .int (nI b)), (3, .int (nI (i + 1)))]) hl [2, 3, 4, 0] rfl
            have eV : xu (cFind V a b i) (20 + 4 * i) 10 (-1) = cFind V a b (i + 1) := (cFind_3 (b2i_0.mp c_39) (b2i_0.mp c_58)).symm
            rw [eV] at G
            exact ih_2 (i + 1) (by omega) (by omega) _ _ _ G hl
          · skip
            refine lv_aload hx hb dX2_findSprays_61 (lv_at hl 0 rfl) ?_
            refine lv_iload_n hx hb dX2_findSprays_63 rfl (lv_at hl 3 rfl) ?_
            refine b_putI B G (Bs i (by omega)) hin0 10 (by decide) (by decide +kernel) dX2_findSprays_64 (fun H locs G => ?_)
            refine lv_iinc (v := nI (i + 1)) (lv' := [(3, .int (nI (i + 1))), (4, .ref (ad (20 + 4 * i))), (0, .ref (ad 0)), (1, .int (nI a)), (2, .int (nI b))]) hx hb dX2_findSprays_67 hl (k := 4) rfl (nI_add i 1) (by decide) rfl (fun ls hl => ?_)
            refine lv_goto (tgt := 2) hx hb dX2_findSprays_70 (by decide) ?_
            have hl := lv_sub (l' := [(0, .ref (ad 0)), (1, .int (nI a)), (2, .int (nI b)), (3, .int (nI (i + 1)))]) hl [2, 3, 4, 0] rfl
            have eV : xu (xu (cFind V a b i) (20 + 4 * i) 10 (-1)) (20 + 4 * i) 10 (nI b) = cFind V a b (i + 1) := (cFind_2 (b2i_0.mp c_39) (b2i_1 c_58)).symm
            rw [eV] at G
            exact ih_2 (i + 1) (by omega) (by omega) _ _ _ G hl
        · skip
          refine lv_aload hx hb dX2_findSprays_42 (lv_at hl 0 rfl) ?_
          refine lv_iload_n hx hb dX2_findSprays_44 rfl (lv_at hl 2 rfl) ?_
          refine b_putI B G (Bs i (by omega)) hin0 10 (by decide) (by decide +kernel) dX2_findSprays_45 (fun H locs G => ?_)
          refine lv_goto (tgt := 67) hx hb dX2_findSprays_48 (by decide) ?_
          refine lv_iinc (v := nI (i + 1)) (lv' := [(3, .int (nI (i + 1))), (4, .ref (ad (20 + 4 * i))), (0, .ref (ad 0)), (1, .int (nI a)), (2, .int (nI b))]) hx hb dX2_findSprays_67 hl (k := 4) rfl (nI_add i 1) (by decide) rfl (fun ls hl => ?_)
          refine lv_goto (tgt := 2) hx hb dX2_findSprays_70 (by decide) ?_
          have hl := lv_sub (l' := [(0, .ref (ad 0)), (1, .int (nI a)), (2, .int (nI b)), (3, .int (nI (i + 1)))]) hl [2, 3, 4, 0] rfl
          have eV : xu (xu (cFind V a b i) (20 + 4 * i) 10 (-1)) (20 + 4 * i) 10 (nI a) = cFind V a b (i + 1) := (cFind_1 (b2i_1 c_39)).symm
          rw [eV] at G
          exact ih_2 (i + 1) (by omega) (by omega) _ _ _ G hl
  have hl := lv_sub (l' := [(0, .ref (ad 0)), (1, .int (nI a)), (2, .int (nI b)), (3, .int 0)]) hl [1, 2, 3, 0] rfl
  have hl := lv_cast hl (congrArg (fun z : Int32 => ([(0, .ref (ad 0)), (1, .int (nI a)), (2, .int (nI b)), (3, .int z)] : List (Nat × Value))) (show 0 = nI 0 from rfl))
  have eV : V = cFind V a b 0 := rfl
  rw [eV] at G
  exact loop_2 (nb + 1) 0 (by omega) (by omega) _ _ _ G hl
def cDl (od : Nat → Nat) (a b nb : Nat) (most : Int32) : Nat → Nat → Int32 → xV → Int32 × xV
  | 0, _, made, W => (made, W)
  | f + 1, i, made, W => if nb ≤ i then (made, W) else if most ≤ made then (made, W) else
      if 0 < W (20 + 4 * od i + 1) a ∧ W (20 + 4 * od i) 1 = nI b then cDl od a b nb most f (i + 1) (made + 1) (bDeliver W (20 + 4 * od i) a b (W 0 0))
      else if 0 < W (20 + 4 * od i + 1) b ∧ W (20 + 4 * od i) 1 = nI a then cDl od a b nb most f (i + 1) (made + 1) (bDeliver W (20 + 4 * od i) b a (W 0 0))
      else cDl od a b nb most f (i + 1) made W
theorem bDeliver_o (V : xV) (b n d : Nat) (t : Int32) {i : Nat} (h0 : i ≠ b) (h1 : i ≠ b + 1) (h2 : i ≠ b + 2) (h3 : i ≠ b + 3) : bDeliver V b n d t i = V i := by
  unfold bDeliver
  rw [bLearn_o _ _ _ h0 h1 h2 h3, bLearn_o _ _ _ h0 h1 h2 h3, xu_ne _ _ _ h0, xu_ne _ _ _ h0]
theorem cDl_o (od : Nat → Nat) (a b nb : Nat) (most : Int32) (f i : Nat) (made : Int32) (W : xV) {j : Nat} (h : j < 20) : (cDl od a b nb most f i made W).2 j = W j := by
  induction f generalizing i made W with
  | zero => rfl
  | succ f ih =>
    unfold cDl
    split
    · rfl
    · split
      · rfl
      · split
        · rw [ih, bDeliver_o _ _ _ _ _ (by omega) (by omega) (by omega) (by omega)]
        · split
          · rw [ih, bDeliver_o _ _ _ _ _ (by omega) (by omega) (by omega) (by omega)]
          · rw [ih]
set_option maxHeartbeats 4000000 in
set_option maxRecDepth 100000 in
theorem c_X2_deliverSome (l : Launch) {D : va_G} {sh : xS} {ad : Nat → Nat} {cI cZ cO : ClassId} {tys : List (ClassId × FieldType)} {nb : Nat} {od : Nat → Nat} (DL : xDl sh ad cI cZ cO tys nb od) (V : xV) (h4 : V 4 2 = nI nb) (h5 : V 5 2 = nI nb) (a b : Nat) (ha : a < 8) (hb8 : b < 8) (most : Int32) : xMi l yX2_deliverSome wsX2_deliverSome (rmK 4) D sh ad tys V [.ref (ad 0), .int (nI a), .int (nI b), .int most] ((cDl od a b nb most (nb + 1) 0 0 V).1) ((cDl od a b nb most (nb + 1) 0 0 V).2) := by
  refine xOfi (cc := cX2_deliverSome) (nL := 7) (ret := some .int) (own := RX2) (by decide) rfl rfl (Nat.le_of_ble_eq_true rfl) DL.2.2.2.2.2.2.1.2.2 ?_
  intro p e s m args below meth c A ls B G hl
  have hx := B.1.1
  have hb := B.1.2.1
  have hin0 : ∀ w ∈ wsX00, w ∈ wsX2_deliverSome := by decide +kernel
  have hin2 : ∀ w ∈ wsX20, w ∈ wsX2_deliverSome := by decide +kernel
  have hinL : ∀ w ∈ wsJx4a65c0, w ∈ wsX2_deliverSome := by decide +kernel
  have hl : lv_has ls 7 [(0, .ref (ad 0)), (1, .int (nI a)), (2, .int (nI b)), (3, .int most)] := hl
  obtain ⟨Dl, Pl, L4, L5, Bs, od_lt, Cx, tO, hn40⟩ := id DL
  obtain ⟨a4, s4, -⟩ := id L4
  obtain ⟨a5, s5, -⟩ := id L5
  refine lv_iconst (v := 0) hx hb dX2_deliverSome_0 (by decide) ?_
  refine lv_istore (lv' := [(4, .int 0), (0, .ref (ad 0)), (1, .int (nI a)), (2, .int (nI b)), (3, .int most)]) hx hb dX2_deliverSome_1 hl (by decide) rfl (fun ls hl => ?_)
  refine lv_iconst (v := 0) hx hb dX2_deliverSome_3 (by decide) ?_
  refine lv_istore (lv' := [(5, .int 0), (4, .int 0), (0, .ref (ad 0)), (1, .int (nI a)), (2, .int (nI b)), (3, .int most)]) hx hb dX2_deliverSome_4 hl (by decide) rfl (fun ls hl => ?_)
  have main : ∀ (f i : Nat) (made : Int32) (W0 : xV), i ≤ nb → nb < i + f → (∀ j, j = 0 ∨ j = 1 ∨ (4 ≤ j ∧ j < 13) → W0 j = V j) → cDl od a b nb most f i made W0 = (cDl od a b nb most (nb + 1) 0 0 V) → ∀ (H : Heap) (locs : List Loc) (ls : Array Slot), xG D sh ad A s.heap W0 H locs → lv_has ls 7 [(0, .ref (ad 0)), (1, .int (nI a)), (2, .int (nI b)), (3, .int most), (4, .int made), (5, .int (nI i))] → W p l e (rmK 4) s m args below meth c H locs 0 0 (xQi below D sh ad tys A args s ((cDl od a b nb most (nb + 1) 0 0 V).1) ((cDl od a b nb most (nb + 1) 0 0 V).2)) (F0 m 6 ls []) := by
    intro f
    induction f with
    | zero => intro i made W0 h1 h2; exact absurd h2 (by omega)
    | succ f ihm =>
      intro i made W0 hi hf hW hr H locs ls G hl
      have q4 : W0 4 2 = nI nb := (congrFun (hW 4 (by omega)) 2).trans h4
      have q5 : W0 5 2 = nI nb := (congrFun (hW 5 (by omega)) 2).trans h5
      refine lv_iload hx hb dX2_deliverSome_6 (lv_at hl 5 rfl) ?_
      refine lv_aload_n hx hb dX2_deliverSome_8 rfl (lv_at hl 0 rfl) ?_
      refine d_getA B G Dl hin2 5 (by decide) (by decide +kernel) dX2_deliverSome_9 ?_
      refine x_callVi (rest := [.int (nI i)]) B G (c_size l Cx.2.2 W0 5 s5) (cwV 0 B.1.2.2.2.2 gX2_deliverSome_Jx4a65c_size_8abf5 rfl rfl rfl (by decide +kernel) ⟨Nat.le_of_ble_eq_true rfl, Nat.le_of_ble_eq_true rfl⟩) (l_recv B G 5 s5) rfl hl.1 rfl (Nat.le_of_ble_eq_true rfl) ⟨Nat.zero_le _, Nat.zero_le _⟩ dX2_deliverSome_12 (fun H locs G => ?_)
      refine x_top (show _ = nI nb from q5) ?_
      refine lv_icmp_ge (tgt := 93) hx hb dX2_deliverSome_15 (by decide) (fun c_15 => ?_) (fun c_15 => ?_)
      · skip
        have c_15 : nb ≤ i := (nI_leI (a := nb) (b := i) (by omega) (by omega)).mp c_15
        refine lv_iload hx hb dX2_deliverSome_93 (lv_at hl 4 rfl) ?_
        have eL : (made, W0) = (cDl od a b nb most (nb + 1) 0 0 V) := by rw [← hr]; exact (if_pos c_15).symm
        exact x_iret B G (by rw [← eL]) (by rw [← eL]) dX2_deliverSome_95
      · skip
        have c_15 : ¬ (nb ≤ i) := fun h9 => c_15 ((nI_leI (a := nb) (b := i) (by omega) (by omega)).mpr h9)
        refine lv_iload hx hb dX2_deliverSome_18 (lv_at hl 4 rfl) ?_
        refine lv_iload_n hx hb dX2_deliverSome_20 rfl (lv_at hl 3 rfl) ?_
        refine lv_icmp_ge (tgt := 93) hx hb dX2_deliverSome_21 (by decide) (fun c_21 => ?_) (fun c_21 => ?_)
        · skip
          refine lv_iload hx hb dX2_deliverSome_93 (lv_at hl 4 rfl) ?_
          have eL : (made, W0) = (cDl od a b nb most (nb + 1) 0 0 V) := by rw [← hr]; exact ((if_neg c_15).trans (if_pos c_21)).symm
          exact x_iret B G (by rw [← eL]) (by rw [← eL]) dX2_deliverSome_95
        · skip
          refine lv_aload_n hx hb dX2_deliverSome_24 rfl (lv_at hl 0 rfl) ?_
          refine d_getA B G Dl hin2 5 (by decide) (by decide +kernel) dX2_deliverSome_25 ?_
          refine lv_iload hx hb dX2_deliverSome_28 (lv_at hl 5 rfl) ?_
          refine x_callVq (rest := []) B G (c_get l tO Cx.2.2 W0 L5 i (by omega) (by omega) q5) (cwV 1 B.1.2.2.2.2 gX2_deliverSome_Jx4a65c_get_915e3 rfl rfl rfl (by decide +kernel) ⟨Nat.le_of_ble_eq_true rfl, Nat.le_of_ble_eq_true rfl⟩) (l_recv B G 5 s5) rfl hl.1 rfl (Nat.le_of_ble_eq_true rfl) ⟨Nat.zero_le _, Nat.zero_le _⟩ dX2_deliverSome_30 (fun H locs G => ?_)
          refine x_cast B G (20 + 4 * od i) (Bs (od i) (od_lt i (by omega))).1 (q := (RX0, TX0, 11)) rfl (by decide +kernel) dX2_deliverSome_33 ?_
          refine lv_astore (lv' := [(6, .ref (ad (20 + 4 * od i))), (0, .ref (ad 0)), (1, .int (nI a)), (2, .int (nI b)), (3, .int most), (4, .int made), (5, .int (nI i))]) hx hb dX2_deliverSome_36 hl (by decide) rfl (fun ls hl => ?_)
          refine lv_aload hx hb dX2_deliverSome_38 (lv_at hl 0 rfl) ?_
          refine lv_iload_n hx hb dX2_deliverSome_40 rfl (lv_at hl 2 rfl) ?_
          refine lv_iload_n hx hb dX2_deliverSome_41 rfl (lv_at hl 3 rfl) ?_
          refine x_callVi (rest := []) B G (c_X0_canDeliver l Cx W0 (20 + 4 * od i) (Bs (od i) (od_lt i (by omega))) a b (by omega)) (cwV 2 B.1.2.2.2.2 gX2_deliverSome_X0_canDeliver rfl rfl rfl (by decide +kernel) ⟨Nat.le_of_ble_eq_true rfl, Nat.le_of_ble_eq_true rfl⟩) (b_recv B G (Bs (od i) (od_lt i (by omega)))) rfl hl.1 rfl (Nat.le_of_ble_eq_true rfl) ⟨Nat.zero_le _, Nat.zero_le _⟩ dX2_deliverSome_42 (fun H locs G => ?_)
          refine lv_if_eq (tgt := 64) hx hb dX2_deliverSome_45 (by decide) (fun c_45 => ?_) (fun c_45 => ?_)
          · skip
            refine lv_aload hx hb dX2_deliverSome_64 (lv_at hl 0 rfl) ?_
            refine lv_iload_n hx hb dX2_deliverSome_66 rfl (lv_at hl 3 rfl) ?_
            refine lv_iload_n hx hb dX2_deliverSome_67 rfl (lv_at hl 2 rfl) ?_
            refine x_callVi (rest := []) B G (c_X0_canDeliver l Cx W0 (20 + 4 * od i) (Bs (od i) (od_lt i (by omega))) b a (by omega)) (cwV 2 B.1.2.2.2.2 gX2_deliverSome_X0_canDeliver rfl rfl rfl (by decide +kernel) ⟨Nat.le_of_ble_eq_true rfl, Nat.le_of_ble_eq_true rfl⟩) (b_recv B G (Bs (od i) (od_lt i (by omega)))) rfl hl.1 rfl (Nat.le_of_ble_eq_true rfl) ⟨Nat.zero_le _, Nat.zero_le _⟩ dX2_deliverSome_68 (fun H locs G => ?_)
            refine lv_if_eq (tgt := 87) hx hb dX2_deliverSome_71 (by decide) (fun c_71 => ?_) (fun c_71 => ?_)
            · skip
              refine lv_iinc (v := nI (i + 1)) (lv' := [(5, .int (nI (i + 1))), (6, .ref (ad (20 + 4 * od i))), (0, .ref (ad 0)), (1, .int (nI a)), (2, .int (nI b)), (3, .int most), (4, .int made)]) hx hb dX2_deliverSome_87 hl (k := 6) rfl (nI_add i 1) (by decide) rfl (fun ls hl => ?_)
              refine lv_goto (tgt := 6) hx hb dX2_deliverSome_90 (by decide) ?_
              have hl := lv_sub (l' := [(0, .ref (ad 0)), (1, .int (nI a)), (2, .int (nI b)), (3, .int most), (4, .int made), (5, .int (nI (i + 1)))]) hl [2, 3, 4, 5, 6, 0] rfl
              exact ihm (i + 1) (made) W0 (by omega) (by omega) hW (by rw [← hr]; exact ((if_neg c_15).trans ((if_neg c_21).trans ((if_neg (b2i_0.mp c_45)).trans (if_neg (b2i_0.mp c_71))))).symm) _ _ _ G hl
            · skip
              refine lv_aload hx hb dX2_deliverSome_74 (lv_at hl 0 rfl) ?_
              refine lv_iload_n hx hb dX2_deliverSome_76 rfl (lv_at hl 3 rfl) ?_
              refine lv_aload_n hx hb dX2_deliverSome_77 rfl (lv_at hl 1 rfl) ?_
              refine d_getI B G Dl hin2 (by decide +kernel) dX2_deliverSome_78 ?_
              refine x_callVv (rest := []) B G (c_X0_deliver l Cx W0 (20 + 4 * od i) (Bs (od i) (od_lt i (by omega))) b a (W0 0 0) (by omega) (by omega) (b2i_1 c_71).2) (cwV 2 B.1.2.2.2.2 gX2_deliverSome_X0_deliver rfl rfl rfl (by decide +kernel) ⟨Nat.le_of_ble_eq_true rfl, Nat.le_of_ble_eq_true rfl⟩) (b_recv B G (Bs (od i) (od_lt i (by omega)))) rfl hl.1 rfl (Nat.le_of_ble_eq_true rfl) ⟨Nat.zero_le _, Nat.zero_le _⟩ dX2_deliverSome_81 (fun H locs G => ?_)
              refine lv_iinc (v := made + 1) (lv' := [(4, .int (made + 1)), (6, .ref (ad (20 + 4 * od i))), (0, .ref (ad 0)), (1, .int (nI a)), (2, .int (nI b)), (3, .int most), (5, .int (nI i))]) hx hb dX2_deliverSome_84 hl (k := 5) rfl (rfl) (by decide) rfl (fun ls hl => ?_)
              refine lv_iinc (v := nI (i + 1)) (lv' := [(5, .int (nI (i + 1))), (4, .int (made + 1)), (6, .ref (ad (20 + 4 * od i))), (0, .ref (ad 0)), (1, .int (nI a)), (2, .int (nI b)), (3, .int most)]) hx hb dX2_deliverSome_87 hl (k := 6) rfl (nI_add i 1) (by decide) rfl (fun ls hl => ?_)
              refine lv_goto (tgt := 6) hx hb dX2_deliverSome_90 (by decide) ?_
              have hl := lv_sub (l' := [(0, .ref (ad 0)), (1, .int (nI a)), (2, .int (nI b)), (3, .int most), (4, .int (made + 1)), (5, .int (nI (i + 1)))]) hl [3, 4, 5, 6, 1, 0] rfl
              exact ihm (i + 1) (made + 1) (bDeliver W0 (20 + 4 * od i) b a (W0 0 0)) (by omega) (by omega) (fun j hj => by rw [bDeliver_o _ _ _ _ _ (by omega) (by omega) (by omega) (by omega)]; exact hW j hj) (by rw [← hr]; exact ((if_neg c_15).trans ((if_neg c_21).trans ((if_neg (b2i_0.mp c_45)).trans (if_pos (b2i_1 c_71))))).symm) _ _ _ G hl
          · skip
            refine lv_aload hx hb dX2_deliverSome_48 (lv_at hl 0 rfl) ?_
            refine lv_iload_n hx hb dX2_deliverSome_50 rfl (lv_at hl 2 rfl) ?_
            refine lv_aload_n hx hb dX2_deliverSome_51 rfl (lv_at hl 1 rfl) ?_
            refine d_getI B G Dl hin2 (by decide +kernel) dX2_deliverSome_52 ?_
            refine x_callVv (rest := []) B G (c_X0_deliver l Cx W0 (20 + 4 * od i) (Bs (od i) (od_lt i (by omega))) a b (W0 0 0) (by omega) (by omega) (b2i_1 c_45).2) (cwV 2 B.1.2.2.2.2 gX2_deliverSome_X0_deliver rfl rfl rfl (by decide +kernel) ⟨Nat.le_of_ble_eq_true rfl, Nat.le_of_ble_eq_true rfl⟩) (b_recv B G (Bs (od i) (od_lt i (by omega)))) rfl hl.1 rfl (Nat.le_of_ble_eq_true rfl) ⟨Nat.zero_le _, Nat.zero_le _⟩ dX2_deliverSome_55 (fun H locs G => ?_)
            refine lv_iinc (v := made + 1) (lv' := [(4, .int (made + 1)), (6, .ref (ad (20 + 4 * od i))), (0, .ref (ad 0)), (1, .int (nI a)), (2, .int (nI b)), (3, .int most), (5, .int (nI i))]) hx hb dX2_deliverSome_58 hl (k := 5) rfl (rfl) (by decide) rfl (fun ls hl => ?_)
            refine lv_goto (tgt := 87) hx hb dX2_deliverSome_61 (by decide) ?_
            refine lv_iinc (v := nI (i + 1)) (lv' := [(5, .int (nI (i + 1))), (4, .int (made + 1)), (6, .ref (ad (20 + 4 * od i))), (0, .ref (ad 0)), (1, .int (nI a)), (2, .int (nI b)), (3, .int most)]) hx hb dX2_deliverSome_87 hl (k := 6) rfl (nI_add i 1) (by decide) rfl (fun ls hl => ?_)
            refine lv_goto (tgt := 6) hx hb dX2_deliverSome_90 (by decide) ?_
            have hl := lv_sub (l' := [(0, .ref (ad 0)), (1, .int (nI a)), (2, .int (nI b)), (3, .int most), (4, .int (made + 1)), (5, .int (nI (i + 1)))]) hl [3, 4, 5, 6, 1, 0] rfl
            exact ihm (i + 1) (made + 1) (bDeliver W0 (20 + 4 * od i) a b (W0 0 0)) (by omega) (by omega) (fun j hj => by rw [bDeliver_o _ _ _ _ _ (by omega) (by omega) (by omega) (by omega)]; exact hW j hj) (by rw [← hr]; exact ((if_neg c_15).trans ((if_neg c_21).trans (if_pos (b2i_1 c_45)))).symm) _ _ _ G hl
  have hl := lv_sub (l' := [(0, .ref (ad 0)), (1, .int (nI a)), (2, .int (nI b)), (3, .int most), (4, .int 0), (5, .int 0)]) hl [2, 3, 4, 5, 1, 0] rfl
  have hl := lv_cast hl (congrArg (fun z : Int32 => ([(0, .ref (ad 0)), (1, .int (nI a)), (2, .int (nI b)), (3, .int most), (4, .int 0), (5, .int z)] : List (Nat × Value))) (show 0 = nI 0 from rfl))
  exact main (nb + 1) 0 0 V (Nat.zero_le _) (by omega) (fun _ _ => rfl) rfl _ _ _ G hl
def cSpB (V : xV) (od : Nat → Nat) (b g t nb : Nat) : Bool := if 0 < V (b + 1) g then cRoomB V od t (V b 2) nb else false
def cSpV (V : xV) (od : Nat → Nat) (b g t nb : Nat) : xV := if 0 < V (b + 1) g then (if cRoomB V od t (V b 2) nb = true then bHalve (cRoomV V od t (V b 2) nb) b g t else xu (cRoomV V od t (V b 2) nb) 3 t (cRoomV V od t (V b 2) nb 3 t + 1)) else V
theorem cRoomV_o (V : xV) (od : Nat → Nat) (n : Nat) (prio : Int32) (nb : Nat) {i : Nat} (h2 : i ≠ 2) (h : i < 20 ∨ i % 4 = 0) : cRoomV V od n prio nb i = V i := by
  unfold cRoomV
  split
  · split
    · rfl
    · split
      · rw [xu_ne _ _ _ h2, bPut_o _ _ _ _ _ (by omega) (by omega)]
      · rfl
  · rfl
theorem bHalve_o (V : xV) (b n d : Nat) {i : Nat} (h1 : i ≠ b + 1) (h2 : i ≠ b + 2) : bHalve V b n d i = V i := by
  unfold bHalve
  rw [bPut_o _ _ _ _ _ h1 h2, xu_ne _ _ _ h1]
theorem cSpV_o (V : xV) (od : Nat → Nat) (k g t nb : Nat) {i : Nat} (h2 : i ≠ 2) (h3 : i ≠ 3) (h : i < 20 ∨ i % 4 = 0) : cSpV V od (20 + 4 * k) g t nb i = V i := by
  unfold cSpV
  split
  · split
    · rw [bHalve_o _ _ _ _ (by omega) (by omega), cRoomV_o _ _ _ _ _ h2 h]
    · rw [xu_ne _ _ _ h3, cRoomV_o _ _ _ _ _ h2 h]
  · rfl
set_option maxHeartbeats 4000000 in
set_option maxRecDepth 100000 in
theorem c_X2_spray (l : Launch) {D : va_G} {sh : xS} {ad : Nat → Nat} {cI cZ cO : ClassId} {tys : List (ClassId × FieldType)} {nb : Nat} {od : Nat → Nat} (DL : xDl sh ad cI cZ cO tys nb od) (V : xV) (h4 : V 4 2 = nI nb) (h5 : V 5 2 = nI nb) (k g t : Nat) (hk : k < nb) (hg : g < 8) (ht : t < 8) : xMi l yX2_spray wsX2_spray (rmK 5) D sh ad tys V [.ref (ad 0), .ref (ad (20 + 4 * k)), .int (nI g), .int (nI t)] (b2i (cSpB V od (20 + 4 * k) g t nb = true)) (cSpV V od (20 + 4 * k) g t nb) := by
  refine xOfi (cc := cX2_spray) (nL := 4) (ret := some .boolean) (own := RX2) (by decide) rfl rfl (Nat.le_of_ble_eq_true rfl) DL.2.2.2.2.2.2.1.2.2 ?_
  intro p e s m args below meth c A ls B G hl
  have hx := B.1.1
  have hb := B.1.2.1
  have hin0 : ∀ w ∈ wsX00, w ∈ wsX2_spray := by decide +kernel
  have hin2 : ∀ w ∈ wsX20, w ∈ wsX2_spray := by decide +kernel
  have hinL : ∀ w ∈ wsJx4a65c0, w ∈ wsX2_spray := by decide +kernel
  have hl : lv_has ls 4 [(0, .ref (ad 0)), (1, .ref (ad (20 + 4 * k))), (2, .int (nI g)), (3, .int (nI t))] := hl
  obtain ⟨Dl, Pl, L4, L5, Bs, od_lt, Cx, tO, hn40⟩ := id DL
  obtain ⟨a4, s4, -⟩ := id L4
  obtain ⟨a5, s5, -⟩ := id L5
  refine lv_aload_n hx hb dX2_spray_0 rfl (lv_at hl 1 rfl) ?_
  refine lv_iload_n hx hb dX2_spray_1 rfl (lv_at hl 2 rfl) ?_
  refine x_callVi (rest := []) B G (c_X0_isAt l Cx V (20 + 4 * k) (Bs k (by omega)) g (by omega)) (cwV 1 B.1.2.2.2.2 gX2_spray_X0_isAt rfl rfl rfl (by decide +kernel) ⟨Nat.le_of_ble_eq_true rfl, Nat.le_of_ble_eq_true rfl⟩) (b_recv B G (Bs k (by omega))) rfl hl.1 rfl (Nat.le_of_ble_eq_true rfl) ⟨Nat.zero_le _, Nat.zero_le _⟩ dX2_spray_2 (fun H locs G => ?_)
  refine lv_if_ne (tgt := 10) hx hb dX2_spray_5 (by decide) (fun c_5 => ?_) (fun c_5 => ?_)
  · skip
    refine lv_aload_n hx hb dX2_spray_10 rfl (lv_at hl 0 rfl) ?_
    refine lv_iload_n hx hb dX2_spray_11 rfl (lv_at hl 3 rfl) ?_
    refine lv_aload_n hx hb dX2_spray_12 rfl (lv_at hl 1 rfl) ?_
    refine b_getI B G (Bs k (by omega)) hin0 2 (by decide) (by decide +kernel) dX2_spray_13 ?_
    refine x_callVi (rest := []) B G (c_X2_makeRoom l DL V h4 h5 t (V (20 + 4 * k) 2) (by omega)) (cwV 2 B.1.2.2.2.2 gX2_spray_X2_makeRoom rfl rfl rfl (by decide +kernel) ⟨Nat.le_of_ble_eq_true rfl, Nat.le_of_ble_eq_true rfl⟩) (d_recv B G Dl) rfl hl.1 rfl (Nat.le_of_ble_eq_true rfl) ⟨Nat.zero_le _, Nat.zero_le _⟩ dX2_spray_16 (fun H locs G => ?_)
    refine lv_if_ne (tgt := 34) hx hb dX2_spray_19 (by decide) (fun c_19 => ?_) (fun c_19 => ?_)
    · skip
      refine lv_aload_n hx hb dX2_spray_34 rfl (lv_at hl 1 rfl) ?_
      refine lv_iload_n hx hb dX2_spray_35 rfl (lv_at hl 2 rfl) ?_
      refine lv_iload_n hx hb dX2_spray_36 rfl (lv_at hl 3 rfl) ?_
      refine x_callVv (rest := []) B G (c_X0_halve l Cx (cRoomV V od t (V (20 + 4 * k) 2) nb) (20 + 4 * k) (Bs k (by omega)) g t (by omega) (by omega)) (cwV 2 B.1.2.2.2.2 gX2_spray_X0_halve rfl rfl rfl (by decide +kernel) ⟨Nat.le_of_ble_eq_true rfl, Nat.le_of_ble_eq_true rfl⟩) (b_recv B G (Bs k (by omega))) rfl hl.1 rfl (Nat.le_of_ble_eq_true rfl) ⟨Nat.zero_le _, Nat.zero_le _⟩ dX2_spray_37 (fun H locs G => ?_)
      refine lv_iconst (v := 1) hx hb dX2_spray_40 (by decide) ?_
      exact x_zret B G (Or.inr rfl) (by unfold cSpB; rw [if_pos (b2i_1 c_5)]; exact (b2i_t (b2i_1 c_19)).symm) (((if_pos (b2i_1 c_5)).trans (if_pos (b2i_1 c_19))).symm) dX2_spray_41
    · skip
      refine lv_aload_n hx hb dX2_spray_22 rfl (lv_at hl 0 rfl) ?_
      refine d_getA B G Dl hin2 3 (by decide) (by decide +kernel) dX2_spray_23 ?_
      refine lv_iload_n hx hb dX2_spray_26 rfl (lv_at hl 3 rfl) ?_
      refine lv_dup2_11 hx hb dX2_spray_27 rfl rfl ?_
      refine x_ald B G (3) Dl.2.2.2 0 Cx.1 t (show t < 8 from by omega) rfl (by decide) dX2_spray_28 ?_
      refine lv_iconst (v := 1) hx hb dX2_spray_29 (by decide) ?_
      refine lv_iadd hx hb dX2_spray_30 ?_
      refine x_ast B G (3) Dl.2.2.2 0 Cx.1 t (show t < 8 from by omega) rfl (by decide) dX2_spray_31 (fun H locs G => ?_)
      refine lv_iconst (v := 0) hx hb dX2_spray_32 (by decide) ?_
      exact x_zret B G (Or.inl rfl) (by unfold cSpB; rw [if_pos (b2i_1 c_5)]; exact c_19.symm) (((if_pos (b2i_1 c_5)).trans (if_neg (b2i_0.mp c_19))).symm) dX2_spray_33
  · skip
    refine lv_iconst (v := 0) hx hb dX2_spray_8 (by decide) ?_
    exact x_zret B G (Or.inl rfl) (by unfold cSpB; rw [if_neg (b2i_0.mp c_5)]; exact b2i_false.symm) ((if_neg (b2i_0.mp c_5)).symm) dX2_spray_9
def cSl (od : Nat → Nat) (a b nb : Nat) (most : Int32) : Nat → Nat → Int32 → xV → Int32 × xV
  | 0, _, made, W => (made, W)
  | f + 1, i, made, W => if nb ≤ i then (made, W) else if most ≤ made then (made, W) else
      if W (20 + 4 * od i) 10 = nI a then cSl od a b nb most f (i + 1) (if cSpB W od (20 + 4 * od i) a b nb = true then made + 1 else made) (cSpV W od (20 + 4 * od i) a b nb)
      else if W (20 + 4 * od i) 10 = nI b then cSl od a b nb most f (i + 1) (if cSpB W od (20 + 4 * od i) b a nb = true then made + 1 else made) (cSpV W od (20 + 4 * od i) b a nb)
      else cSl od a b nb most f (i + 1) made W
theorem cSl_o (od : Nat → Nat) (a b nb : Nat) (most : Int32) (f i : Nat) (made : Int32) (W : xV) {j : Nat} (h : j = 0 ∨ j = 1 ∨ (4 ≤ j ∧ j < 13)) : (cSl od a b nb most f i made W).2 j = W j := by
  induction f generalizing i made W with
  | zero => rfl
  | succ f ih =>
    unfold cSl
    split
    · rfl
    · split
      · rfl
      · split
        · rw [ih, cSpV_o _ _ _ _ _ _ (by omega) (by omega) (by omega)]
        · split
          · rw [ih, cSpV_o _ _ _ _ _ _ (by omega) (by omega) (by omega)]
          · rw [ih]
set_option maxHeartbeats 4000000 in
set_option maxRecDepth 100000 in
theorem c_X2_spraySome (l : Launch) {D : va_G} {sh : xS} {ad : Nat → Nat} {cI cZ cO : ClassId} {tys : List (ClassId × FieldType)} {nb : Nat} {od : Nat → Nat} (DL : xDl sh ad cI cZ cO tys nb od) (V : xV) (h4 : V 4 2 = nI nb) (h5 : V 5 2 = nI nb) (a b : Nat) (ha : a < 8) (hb8 : b < 8) (most : Int32) (hab : a ≠ b) : xMi l yX2_spraySome wsX2_spraySome (rmK 6) D sh ad tys V [.ref (ad 0), .int (nI a), .int (nI b), .int most] ((cSl od a b nb most (nb + 1) 0 0 V).1) ((cSl od a b nb most (nb + 1) 0 0 V).2) := by
  refine xOfi (cc := cX2_spraySome) (nL := 7) (ret := some .int) (own := RX2) (by decide) rfl rfl (Nat.le_of_ble_eq_true rfl) DL.2.2.2.2.2.2.1.2.2 ?_
  intro p e s m args below meth c A ls B G hl
  have hx := B.1.1
  have hb := B.1.2.1
  have hin0 : ∀ w ∈ wsX00, w ∈ wsX2_spraySome := by decide +kernel
  have hin2 : ∀ w ∈ wsX20, w ∈ wsX2_spraySome := by decide +kernel
  have hinL : ∀ w ∈ wsJx4a65c0, w ∈ wsX2_spraySome := by decide +kernel
  have hl : lv_has ls 7 [(0, .ref (ad 0)), (1, .int (nI a)), (2, .int (nI b)), (3, .int most)] := hl
  obtain ⟨Dl, Pl, L4, L5, Bs, od_lt, Cx, tO, hn40⟩ := id DL
  obtain ⟨a4, s4, -⟩ := id L4
  obtain ⟨a5, s5, -⟩ := id L5
  refine lv_iconst (v := 0) hx hb dX2_spraySome_0 (by decide) ?_
  refine lv_istore (lv' := [(4, .int 0), (0, .ref (ad 0)), (1, .int (nI a)), (2, .int (nI b)), (3, .int most)]) hx hb dX2_spraySome_1 hl (by decide) rfl (fun ls hl => ?_)
  refine lv_iconst (v := 0) hx hb dX2_spraySome_3 (by decide) ?_
  refine lv_istore (lv' := [(5, .int 0), (4, .int 0), (0, .ref (ad 0)), (1, .int (nI a)), (2, .int (nI b)), (3, .int most)]) hx hb dX2_spraySome_4 hl (by decide) rfl (fun ls hl => ?_)
  have main : ∀ (f i : Nat) (made : Int32) (W0 : xV), i ≤ nb → nb < i + f → (∀ j, j = 0 ∨ j = 1 ∨ (4 ≤ j ∧ j < 13) → W0 j = V j) → cSl od a b nb most f i made W0 = (cSl od a b nb most (nb + 1) 0 0 V) → ∀ (H : Heap) (locs : List Loc) (ls : Array Slot), xG D sh ad A s.heap W0 H locs → lv_has ls 7 [(0, .ref (ad 0)), (1, .int (nI a)), (2, .int (nI b)), (3, .int most), (4, .int made), (5, .int (nI i))] → W p l e (rmK 6) s m args below meth c H locs 0 0 (xQi below D sh ad tys A args s ((cSl od a b nb most (nb + 1) 0 0 V).1) ((cSl od a b nb most (nb + 1) 0 0 V).2)) (F0 m 6 ls []) := by
    intro f
    induction f with
    | zero => intro i made W0 h1 h2; exact absurd h2 (by omega)
    | succ f ihm =>
      intro i made W0 hi hf hW hr H locs ls G hl
      have q4 : W0 4 2 = nI nb := (congrFun (hW 4 (by omega)) 2).trans h4
      have q5 : W0 5 2 = nI nb := (congrFun (hW 5 (by omega)) 2).trans h5
      refine lv_iload hx hb dX2_spraySome_6 (lv_at hl 5 rfl) ?_
      refine lv_aload_n hx hb dX2_spraySome_8 rfl (lv_at hl 0 rfl) ?_
      refine d_getA B G Dl hin2 5 (by decide) (by decide +kernel) dX2_spraySome_9 ?_
      refine x_callVi (rest := [.int (nI i)]) B G (c_size l Cx.2.2 W0 5 s5) (cwV 0 B.1.2.2.2.2 gX2_spraySome_Jx4a65c_size_8abf5 rfl rfl rfl (by decide +kernel) ⟨Nat.le_of_ble_eq_true rfl, Nat.le_of_ble_eq_true rfl⟩) (l_recv B G 5 s5) rfl hl.1 rfl (Nat.le_of_ble_eq_true rfl) ⟨Nat.zero_le _, Nat.zero_le _⟩ dX2_spraySome_12 (fun H locs G => ?_)
      refine x_top (show _ = nI nb from q5) ?_
      refine lv_icmp_ge (tgt := 93) hx hb dX2_spraySome_15 (by decide) (fun c_15 => ?_) (fun c_15 => ?_)
      · skip
        have c_15 : nb ≤ i := (nI_leI (a := nb) (b := i) (by omega) (by omega)).mp c_15
        refine lv_iload hx hb dX2_spraySome_93 (lv_at hl 4 rfl) ?_
        have eL : (made, W0) = (cSl od a b nb most (nb + 1) 0 0 V) := by rw [← hr]; exact (if_pos c_15).symm
        exact x_iret B G (by rw [← eL]) (by rw [← eL]) dX2_spraySome_95
      · skip
        have c_15 : ¬ (nb ≤ i) := fun h9 => c_15 ((nI_leI (a := nb) (b := i) (by omega) (by omega)).mpr h9)
        refine lv_iload hx hb dX2_spraySome_18 (lv_at hl 4 rfl) ?_
        refine lv_iload_n hx hb dX2_spraySome_20 rfl (lv_at hl 3 rfl) ?_
        refine lv_icmp_ge (tgt := 93) hx hb dX2_spraySome_21 (by decide) (fun c_21 => ?_) (fun c_21 => ?_)
        · skip
          refine lv_iload hx hb dX2_spraySome_93 (lv_at hl 4 rfl) ?_
          have eL : (made, W0) = (cSl od a b nb most (nb + 1) 0 0 V) := by rw [← hr]; exact ((if_neg c_15).trans (if_pos c_21)).symm
          exact x_iret B G (by rw [← eL]) (by rw [← eL]) dX2_spraySome_95
        · skip
          refine lv_aload_n hx hb dX2_spraySome_24 rfl (lv_at hl 0 rfl) ?_
          refine d_getA B G Dl hin2 5 (by decide) (by decide +kernel) dX2_spraySome_25 ?_
          refine lv_iload hx hb dX2_spraySome_28 (lv_at hl 5 rfl) ?_
          refine x_callVq (rest := []) B G (c_get l tO Cx.2.2 W0 L5 i (by omega) (by omega) q5) (cwV 1 B.1.2.2.2.2 gX2_spraySome_Jx4a65c_get_915e3 rfl rfl rfl (by decide +kernel) ⟨Nat.le_of_ble_eq_true rfl, Nat.le_of_ble_eq_true rfl⟩) (l_recv B G 5 s5) rfl hl.1 rfl (Nat.le_of_ble_eq_true rfl) ⟨Nat.zero_le _, Nat.zero_le _⟩ dX2_spraySome_30 (fun H locs G => ?_)
          refine x_cast B G (20 + 4 * od i) (Bs (od i) (od_lt i (by omega))).1 (q := (RX0, TX0, 11)) rfl (by decide +kernel) dX2_spraySome_33 ?_
          refine lv_astore (lv' := [(6, .ref (ad (20 + 4 * od i))), (0, .ref (ad 0)), (1, .int (nI a)), (2, .int (nI b)), (3, .int most), (4, .int made), (5, .int (nI i))]) hx hb dX2_spraySome_36 hl (by decide) rfl (fun ls hl => ?_)
          refine lv_aload hx hb dX2_spraySome_38 (lv_at hl 0 rfl) ?_
          refine b_getI B G (Bs (od i) (od_lt i (by omega))) hin0 10 (by decide) (by decide +kernel) dX2_spraySome_40 ?_
          refine lv_iload_n hx hb dX2_spraySome_43 rfl (lv_at hl 2 rfl) ?_
          refine lv_icmp_ne (tgt := 64) hx hb dX2_spraySome_44 (by decide) (fun c_44 => ?_) (fun c_44 => ?_)
          · skip
            refine lv_aload hx hb dX2_spraySome_64 (lv_at hl 0 rfl) ?_
            refine b_getI B G (Bs (od i) (od_lt i (by omega))) hin0 10 (by decide) (by decide +kernel) dX2_spraySome_66 ?_
            refine lv_iload_n hx hb dX2_spraySome_69 rfl (lv_at hl 3 rfl) ?_
            refine lv_icmp_ne (tgt := 87) hx hb dX2_spraySome_70 (by decide) (fun c_70 => ?_) (fun c_70 => ?_)
            · skip
              refine lv_iinc (v := nI (i + 1)) (lv' := [(5, .int (nI (i + 1))), (6, .ref (ad (20 + 4 * od i))), (0, .ref (ad 0)), (1, .int (nI a)), (2, .int (nI b)), (3, .int most), (4, .int made)]) hx hb dX2_spraySome_87 hl (k := 6) rfl (nI_add i 1) (by decide) rfl (fun ls hl => ?_)
              refine lv_goto (tgt := 6) hx hb dX2_spraySome_90 (by decide) ?_
              have hl := lv_sub (l' := [(0, .ref (ad 0)), (1, .int (nI a)), (2, .int (nI b)), (3, .int most), (4, .int made), (5, .int (nI (i + 1)))]) hl [2, 3, 4, 5, 6, 0] rfl
              exact ihm (i + 1) (made) W0 (by omega) (by omega) hW (by rw [← hr]; exact ((if_neg c_15).trans ((if_neg c_21).trans ((if_neg c_44).trans (if_neg c_70)))).symm) _ _ _ G hl
            · skip
              refine lv_aload_n hx hb dX2_spraySome_73 rfl (lv_at hl 1 rfl) ?_
              refine lv_aload hx hb dX2_spraySome_74 (lv_at hl 0 rfl) ?_
              refine lv_iload_n hx hb dX2_spraySome_76 rfl (lv_at hl 3 rfl) ?_
              refine lv_iload_n hx hb dX2_spraySome_77 rfl (lv_at hl 2 rfl) ?_
              refine x_callVi (rest := []) B G (c_X2_spray l DL W0 q4 q5 (od i) b a (od_lt i (by omega)) (by omega) (by omega)) (cwV 3 B.1.2.2.2.2 gX2_spraySome_X2_spray rfl rfl rfl (by decide +kernel) ⟨Nat.le_of_ble_eq_true rfl, Nat.le_of_ble_eq_true rfl⟩) (d_recv B G Dl) rfl hl.1 rfl (Nat.le_of_ble_eq_true rfl) ⟨Nat.zero_le _, Nat.zero_le _⟩ dX2_spraySome_78 (fun H locs G => ?_)
              refine lv_if_eq (tgt := 87) hx hb dX2_spraySome_81 (by decide) (fun c_81 => ?_) (fun c_81 => ?_)
              · skip
                refine lv_iinc (v := nI (i + 1)) (lv' := [(5, .int (nI (i + 1))), (6, .ref (ad (20 + 4 * od i))), (0, .ref (ad 0)), (1, .int (nI a)), (2, .int (nI b)), (3, .int most), (4, .int made)]) hx hb dX2_spraySome_87 hl (k := 6) rfl (nI_add i 1) (by decide) rfl (fun ls hl => ?_)
                refine lv_goto (tgt := 6) hx hb dX2_spraySome_90 (by decide) ?_
                have hl := lv_sub (l' := [(0, .ref (ad 0)), (1, .int (nI a)), (2, .int (nI b)), (3, .int most), (4, .int made), (5, .int (nI (i + 1)))]) hl [2, 3, 4, 5, 6, 0] rfl
                have hl := lv_cast hl (congrArg (fun z : Int32 => ([(0, .ref (ad 0)), (1, .int (nI a)), (2, .int (nI b)), (3, .int most), (4, .int z), (5, .int (nI (i + 1)))] : List (Nat × Value))) (show made = if cSpB W0 od (20 + 4 * od i) b a nb = true then made + 1 else made from (if_neg (b2i_0.mp c_81)).symm))
                exact ihm (i + 1) (if cSpB W0 od (20 + 4 * od i) b a nb = true then made + 1 else made) (cSpV W0 od (20 + 4 * od i) b a nb) (by omega) (by omega) (fun j hj => by rw [cSpV_o _ _ _ _ _ _ (by omega) (by omega) (by omega)]; exact hW j hj) (by rw [← hr]; exact ((if_neg c_15).trans ((if_neg c_21).trans ((if_neg c_44).trans (if_pos c_70)))).symm) _ _ _ G hl
              · skip
                refine lv_iinc (v := made + 1) (lv' := [(4, .int (made + 1)), (6, .ref (ad (20 + 4 * od i))), (0, .ref (ad 0)), (1, .int (nI a)), (2, .int (nI b)), (3, .int most), (5, .int (nI i))]) hx hb dX2_spraySome_84 hl (k := 5) rfl (rfl) (by decide) rfl (fun ls hl => ?_)
                refine lv_iinc (v := nI (i + 1)) (lv' := [(5, .int (nI (i + 1))), (4, .int (made + 1)), (6, .ref (ad (20 + 4 * od i))), (0, .ref (ad 0)), (1, .int (nI a)), (2, .int (nI b)), (3, .int most)]) hx hb dX2_spraySome_87 hl (k := 6) rfl (nI_add i 1) (by decide) rfl (fun ls hl => ?_)
                refine lv_goto (tgt := 6) hx hb dX2_spraySome_90 (by decide) ?_
                have hl := lv_sub (l' := [(0, .ref (ad 0)), (1, .int (nI a)), (2, .int (nI b)), (3, .int most), (4, .int (made + 1)), (5, .int (nI (i + 1)))]) hl [3, 4, 5, 6, 1, 0] rfl
                have hl := lv_cast hl (congrArg (fun z : Int32 => ([(0, .ref (ad 0)), (1, .int (nI a)), (2, .int (nI b)), (3, .int most), (4, .int z), (5, .int (nI (i + 1)))] : List (Nat × Value))) (show made + 1 = if cSpB W0 od (20 + 4 * od i) b a nb = true then made + 1 else made from (if_pos (b2i_1 c_81)).symm))
                exact ihm (i + 1) (if cSpB W0 od (20 + 4 * od i) b a nb = true then made + 1 else made) (cSpV W0 od (20 + 4 * od i) b a nb) (by omega) (by omega) (fun j hj => by rw [cSpV_o _ _ _ _ _ _ (by omega) (by omega) (by omega)]; exact hW j hj) (by rw [← hr]; exact ((if_neg c_15).trans ((if_neg c_21).trans ((if_neg c_44).trans (if_pos c_70)))).symm) _ _ _ G hl
          · skip
            refine lv_aload_n hx hb dX2_spraySome_47 rfl (lv_at hl 1 rfl) ?_
            refine lv_aload hx hb dX2_spraySome_48 (lv_at hl 0 rfl) ?_
            refine lv_iload_n hx hb dX2_spraySome_50 rfl (lv_at hl 2 rfl) ?_
            refine lv_iload_n hx hb dX2_spraySome_51 rfl (lv_at hl 3 rfl) ?_
            refine x_callVi (rest := []) B G (c_X2_spray l DL W0 q4 q5 (od i) a b (od_lt i (by omega)) (by omega) (by omega)) (cwV 3 B.1.2.2.2.2 gX2_spraySome_X2_spray rfl rfl rfl (by decide +kernel) ⟨Nat.le_of_ble_eq_true rfl, Nat.le_of_ble_eq_true rfl⟩) (d_recv B G Dl) rfl hl.1 rfl (Nat.le_of_ble_eq_true rfl) ⟨Nat.zero_le _, Nat.zero_le _⟩ dX2_spraySome_52 (fun H locs G => ?_)
            refine lv_if_eq (tgt := 64) hx hb dX2_spraySome_55 (by decide) (fun c_55 => ?_) (fun c_55 => ?_)
            · skip
              refine lv_aload hx hb dX2_spraySome_64 (lv_at hl 0 rfl) ?_
              refine b_getI B G (Bs (od i) (od_lt i (by omega))) hin0 10 (by decide) (by decide +kernel) dX2_spraySome_66 ?_
              refine x_top (show _ = W0 (20 + 4 * od i) 10 from (by rw [cSpV_o _ _ _ _ _ _ (by omega) (by omega) (by omega)])) ?_
              refine lv_iload_n hx hb dX2_spraySome_69 rfl (lv_at hl 3 rfl) ?_
              refine lv_icmp_ne (tgt := 87) hx hb dX2_spraySome_70 (by decide) (fun c_70 => ?_) (fun c_70 => ?_)
              · skip
                refine lv_iinc (v := nI (i + 1)) (lv' := [(5, .int (nI (i + 1))), (6, .ref (ad (20 + 4 * od i))), (0, .ref (ad 0)), (1, .int (nI a)), (2, .int (nI b)), (3, .int most), (4, .int made)]) hx hb dX2_spraySome_87 hl (k := 6) rfl (nI_add i 1) (by decide) rfl (fun ls hl => ?_)
                refine lv_goto (tgt := 6) hx hb dX2_spraySome_90 (by decide) ?_
                have hl := lv_sub (l' := [(0, .ref (ad 0)), (1, .int (nI a)), (2, .int (nI b)), (3, .int most), (4, .int made), (5, .int (nI (i + 1)))]) hl [2, 3, 4, 5, 6, 0] rfl
                have hl := lv_cast hl (congrArg (fun z : Int32 => ([(0, .ref (ad 0)), (1, .int (nI a)), (2, .int (nI b)), (3, .int most), (4, .int z), (5, .int (nI (i + 1)))] : List (Nat × Value))) (show made = if cSpB W0 od (20 + 4 * od i) a b nb = true then made + 1 else made from (if_neg (b2i_0.mp c_55)).symm))
                exact ihm (i + 1) (if cSpB W0 od (20 + 4 * od i) a b nb = true then made + 1 else made) (cSpV W0 od (20 + 4 * od i) a b nb) (by omega) (by omega) (fun j hj => by rw [cSpV_o _ _ _ _ _ _ (by omega) (by omega) (by omega)]; exact hW j hj) (by rw [← hr]; exact ((if_neg c_15).trans ((if_neg c_21).trans (if_pos c_44))).symm) _ _ _ G hl
              · exact False.elim (hab ((nI_eq (by omega) (by omega)).mp (c_44.symm.trans c_70)))
            · skip
              refine lv_iinc (v := made + 1) (lv' := [(4, .int (made + 1)), (6, .ref (ad (20 + 4 * od i))), (0, .ref (ad 0)), (1, .int (nI a)), (2, .int (nI b)), (3, .int most), (5, .int (nI i))]) hx hb dX2_spraySome_58 hl (k := 5) rfl (rfl) (by decide) rfl (fun ls hl => ?_)
              refine lv_goto (tgt := 87) hx hb dX2_spraySome_61 (by decide) ?_
              refine lv_iinc (v := nI (i + 1)) (lv' := [(5, .int (nI (i + 1))), (4, .int (made + 1)), (6, .ref (ad (20 + 4 * od i))), (0, .ref (ad 0)), (1, .int (nI a)), (2, .int (nI b)), (3, .int most)]) hx hb dX2_spraySome_87 hl (k := 6) rfl (nI_add i 1) (by decide) rfl (fun ls hl => ?_)
              refine lv_goto (tgt := 6) hx hb dX2_spraySome_90 (by decide) ?_
              have hl := lv_sub (l' := [(0, .ref (ad 0)), (1, .int (nI a)), (2, .int (nI b)), (3, .int most), (4, .int (made + 1)), (5, .int (nI (i + 1)))]) hl [3, 4, 5, 6, 1, 0] rfl
              have hl := lv_cast hl (congrArg (fun z : Int32 => ([(0, .ref (ad 0)), (1, .int (nI a)), (2, .int (nI b)), (3, .int most), (4, .int z), (5, .int (nI (i + 1)))] : List (Nat × Value))) (show made + 1 = if cSpB W0 od (20 + 4 * od i) a b nb = true then made + 1 else made from (if_pos (b2i_1 c_55)).symm))
              exact ihm (i + 1) (if cSpB W0 od (20 + 4 * od i) a b nb = true then made + 1 else made) (cSpV W0 od (20 + 4 * od i) a b nb) (by omega) (by omega) (fun j hj => by rw [cSpV_o _ _ _ _ _ _ (by omega) (by omega) (by omega)]; exact hW j hj) (by rw [← hr]; exact ((if_neg c_15).trans ((if_neg c_21).trans (if_pos c_44))).symm) _ _ _ G hl
  have hl := lv_sub (l' := [(0, .ref (ad 0)), (1, .int (nI a)), (2, .int (nI b)), (3, .int most), (4, .int 0), (5, .int 0)]) hl [2, 3, 4, 5, 1, 0] rfl
  have hl := lv_cast hl (congrArg (fun z : Int32 => ([(0, .ref (ad 0)), (1, .int (nI a)), (2, .int (nI b)), (3, .int most), (4, .int 0), (5, .int z)] : List (Nat × Value))) (show 0 = nI 0 from rfl))
  exact main (nb + 1) 0 0 V (Nat.zero_le _) (by omega) (fun _ _ => rfl) rfl _ _ _ G hl
def cNear (V : xV) (k f t nc : Nat) : xV :=
  (fun W1 : xV => (fun W2 : xV => if W2 13 (V (20 + 4 * k) 1).toNatClampNeg ≤ W1 13 (V (20 + 4 * k) 1).toNatClampNeg then W2 else xu W2 (20 + 4 * k) 7 (nI t)) (pFin W1 f (V (20 + 4 * k) 1).toNatClampNeg nc (V 0 0))) (pFin V t (V (20 + 4 * k) 1).toNatClampNeg nc (V 0 0))
theorem cNear_o (V : xV) (k f t nc : Nat) {i : Nat} (h : i ≠ 20 + 4 * k) (h13 : i ≠ 13) (h14 : i ≠ 14) : cNear V k f t nc i = V i := by
  unfold cNear
  dsimp only
  split
  · rw [pFin_o _ _ _ _ _ h13 h14, pFin_o _ _ _ _ _ h13 h14]
  · rw [xu_ne _ _ _ h, pFin_o _ _ _ _ _ h13 h14, pFin_o _ _ _ _ _ h13 h14]
theorem cNear_f (V : xV) (k f t nc : Nat) {i : Nat} (h : i ≠ 7) : cNear V k f t nc (20 + 4 * k) i = V (20 + 4 * k) i := by
  unfold cNear
  dsimp only
  split
  · rw [pFin_o _ _ _ _ _ (by omega) (by omega), pFin_o _ _ _ _ _ (by omega) (by omega)]
  · rw [xu_row, if_neg h, pFin_o _ _ _ _ _ (by omega) (by omega), pFin_o _ _ _ _ _ (by omega) (by omega)]
set_option maxHeartbeats 4000000 in
set_option maxRecDepth 100000 in
theorem c_X2_moveCustodyIfNearer (l : Launch) {D : va_G} {sh : xS} {ad : Nat → Nat} {cI cZ cO : ClassId} {tys : List (ClassId × FieldType)} {nb : Nat} {od : Nat → Nat} (DL : xDl sh ad cI cZ cO tys nb od) (V : xV) (h4 : V 4 2 = nI nb) (h5 : V 5 2 = nI nb) (k f t nc : Nat) (hk : k < nb) (hf : f < 8) (ht : t < 8) (hd1 : V (20 + 4 * k) 1 = nI (V (20 + 4 * k) 1).toNatClampNeg) (hd8 : (V (20 + 4 * k) 1).toNatClampNeg < 8) (hnc : V 6 6 = nI nc) (hc30 : nc ≤ 30) (hpl : cPl V nc) : xMv l yX2_moveCustodyIfNearer wsX2_moveCustodyIfNearer (rmK 4) D sh ad tys V [.ref (ad 0), .ref (ad (20 + 4 * k)), .int (nI f), .int (nI t)] (cNear V k f t nc) := by
  refine xOfv (cc := cX2_moveCustodyIfNearer) (nL := 6) (ret := none) (own := RX2) (by decide) rfl rfl (Nat.le_of_ble_eq_true rfl) DL.2.2.2.2.2.2.1.2.2 ?_
  intro p e s m args below meth c A ls B G hl
  have hx := B.1.1
  have hb := B.1.2.1
  have hin0 : ∀ w ∈ wsX00, w ∈ wsX2_moveCustodyIfNearer := by decide +kernel
  have hin1 : ∀ w ∈ wsX10, w ∈ wsX2_moveCustodyIfNearer := by decide +kernel
  have hin2 : ∀ w ∈ wsX20, w ∈ wsX2_moveCustodyIfNearer := by decide +kernel
  have hl : lv_has ls 6 [(0, .ref (ad 0)), (1, .ref (ad (20 + 4 * k))), (2, .int (nI f)), (3, .int (nI t))] := hl
  obtain ⟨Dl, Pl, L4, L5, Bs, od_lt, Cx, tO, hn40⟩ := id DL
  obtain ⟨a4, s4, -⟩ := id L4
  obtain ⟨a5, s5, -⟩ := id L5
  refine lv_aload_n hx hb dX2_moveCustodyIfNearer_0 rfl (lv_at hl 0 rfl) ?_
  refine d_getA B G Dl hin2 6 (by decide) (by decide +kernel) dX2_moveCustodyIfNearer_1 ?_
  refine lv_iload_n hx hb dX2_moveCustodyIfNearer_4 rfl (lv_at hl 3 rfl) ?_
  refine lv_aload_n hx hb dX2_moveCustodyIfNearer_5 rfl (lv_at hl 1 rfl) ?_
  refine b_getI B G (Bs k (by omega)) hin0 1 (by decide) (by decide +kernel) dX2_moveCustodyIfNearer_6 ?_
  refine x_top (show _ = nI (V (20 + 4 * k) 1).toNatClampNeg from (by first | exact hd1 | (rw [pFin_o _ _ _ _ _ (by omega) (by omega)]; exact hd1))) ?_
  refine lv_aload_n hx hb dX2_moveCustodyIfNearer_9 rfl (lv_at hl 0 rfl) ?_
  refine d_getI B G Dl hin2 (by decide +kernel) dX2_moveCustodyIfNearer_10 ?_
  refine x_top (show _ = V 0 0 from (by first | rfl | (rw [pFin_o _ _ _ _ _ (by omega) (by omega)]))) ?_
  refine x_callVi (rest := []) B G (c_X1_arrivalByNodes l Cx V Pl t ((V (20 + 4 * k) 1).toNatClampNeg) nc (V 0 0) (by omega) (by omega) (by first | exact hnc | (rw [pFin_o _ _ _ _ _ (by omega) (by omega)]; exact hnc)) hc30 (by first | exact hpl | exact hpl.eq (pFin_o _ _ _ _ _ (by omega) (by omega)) (pFin_o _ _ _ _ _ (by omega) (by omega)))) (cwV 3 B.1.2.2.2.2 gX2_moveCustodyIfNearer_X1_arrivalByNodes rfl rfl rfl (by decide +kernel) ⟨Nat.le_of_ble_eq_true rfl, Nat.le_of_ble_eq_true rfl⟩) (p_recv B G Pl) rfl hl.1 rfl (Nat.le_of_ble_eq_true rfl) ⟨Nat.zero_le _, Nat.zero_le _⟩ dX2_moveCustodyIfNearer_13 (fun H locs G => ?_)
  refine lv_istore (lv' := [(4, .int (pFin V t ((V (20 + 4 * k) 1).toNatClampNeg) nc (V 0 0) 13 ((V (20 + 4 * k) 1).toNatClampNeg))), (0, .ref (ad 0)), (1, .ref (ad (20 + 4 * k))), (2, .int (nI f)), (3, .int (nI t))]) hx hb dX2_moveCustodyIfNearer_16 hl (by decide) rfl (fun ls hl => ?_)
  refine lv_aload_n hx hb dX2_moveCustodyIfNearer_18 rfl (lv_at hl 1 rfl) ?_
  refine d_getA B G Dl hin2 6 (by decide) (by decide +kernel) dX2_moveCustodyIfNearer_19 ?_
  refine lv_iload_n hx hb dX2_moveCustodyIfNearer_22 rfl (lv_at hl 3 rfl) ?_
  refine lv_aload_n hx hb dX2_moveCustodyIfNearer_23 rfl (lv_at hl 2 rfl) ?_
  refine b_getI B G (Bs k (by omega)) hin0 1 (by decide) (by decide +kernel) dX2_moveCustodyIfNearer_24 ?_
  refine x_top (show _ = nI (V (20 + 4 * k) 1).toNatClampNeg from (by first | exact hd1 | (rw [pFin_o _ _ _ _ _ (by omega) (by omega)]; exact hd1))) ?_
  refine lv_aload_n hx hb dX2_moveCustodyIfNearer_27 rfl (lv_at hl 1 rfl) ?_
  refine d_getI B G Dl hin2 (by decide +kernel) dX2_moveCustodyIfNearer_28 ?_
  refine x_top (show _ = V 0 0 from (by first | rfl | (rw [pFin_o _ _ _ _ _ (by omega) (by omega)]))) ?_
  refine x_callVi (rest := []) B G (c_X1_arrivalByNodes l Cx (pFin V t ((V (20 + 4 * k) 1).toNatClampNeg) nc (V 0 0)) Pl f ((V (20 + 4 * k) 1).toNatClampNeg) nc (V 0 0) (by omega) (by omega) (by first | exact hnc | (rw [pFin_o _ _ _ _ _ (by omega) (by omega)]; exact hnc)) hc30 (by first | exact hpl | exact hpl.eq (pFin_o _ _ _ _ _ (by omega) (by omega)) (pFin_o _ _ _ _ _ (by omega) (by omega)))) (cwV 3 B.1.2.2.2.2 gX2_moveCustodyIfNearer_X1_arrivalByNodes rfl rfl rfl (by decide +kernel) ⟨Nat.le_of_ble_eq_true rfl, Nat.le_of_ble_eq_true rfl⟩) (p_recv B G Pl) rfl hl.1 rfl (Nat.le_of_ble_eq_true rfl) ⟨Nat.zero_le _, Nat.zero_le _⟩ dX2_moveCustodyIfNearer_31 (fun H locs G => ?_)
  refine lv_istore (lv' := [(5, .int (pFin (pFin V t ((V (20 + 4 * k) 1).toNatClampNeg) nc (V 0 0)) f ((V (20 + 4 * k) 1).toNatClampNeg) nc (V 0 0) 13 ((V (20 + 4 * k) 1).toNatClampNeg))), (4, .int (pFin V t ((V (20 + 4 * k) 1).toNatClampNeg) nc (V 0 0) 13 ((V (20 + 4 * k) 1).toNatClampNeg))), (0, .ref (ad 0)), (1, .ref (ad (20 + 4 * k))), (2, .int (nI f)), (3, .int (nI t))]) hx hb dX2_moveCustodyIfNearer_34 hl (by decide) rfl (fun ls hl => ?_)
  refine lv_iload hx hb dX2_moveCustodyIfNearer_36 (lv_at hl 1 rfl) ?_
  refine lv_iload hx hb dX2_moveCustodyIfNearer_38 (lv_at hl 0 rfl) ?_
  refine lv_icmp_ge (tgt := 48) hx hb dX2_moveCustodyIfNearer_40 (by decide) (fun c_40 => ?_) (fun c_40 => ?_)
  · skip
    exact x_vret B G ((if_pos c_40).symm) dX2_moveCustodyIfNearer_48
  · skip
    refine lv_aload_n hx hb dX2_moveCustodyIfNearer_43 rfl (lv_at hl 3 rfl) ?_
    refine lv_iload_n hx hb dX2_moveCustodyIfNearer_44 rfl (lv_at hl 5 rfl) ?_
    refine b_putI B G (Bs k (by omega)) hin0 7 (by decide) (by decide +kernel) dX2_moveCustodyIfNearer_45 (fun H locs G => ?_)
    exact x_vret B G ((if_neg c_40).symm) dX2_moveCustodyIfNearer_48
def cMv (V : xV) (a b nc : Nat) : Nat → xV
  | 0 => V
  | k + 1 => if ¬ 0 < cMv V a b nc k (20 + 4 * k + 1) a then cMv V a b nc k else if ¬ 0 < cMv V a b nc k (20 + 4 * k + 1) b then cMv V a b nc k else
      if cMv V a b nc k (20 + 4 * k) 7 = nI a then cNear (cMv V a b nc k) k a b nc else if cMv V a b nc k (20 + 4 * k) 7 = nI b then cNear (cMv V a b nc k) k b a nc else cMv V a b nc k
theorem cMv_o (V : xV) (a b nc k : Nat) {i : Nat} (h : i < 20) (h13 : i ≠ 13) (h14 : i ≠ 14) : cMv V a b nc k i = V i := by
  induction k with
  | zero => rfl
  | succ k ih =>
    unfold cMv
    split
    · exact ih
    · split
      · exact ih
      · split
        · rw [cNear_o _ _ _ _ _ (by omega) h13 h14, ih]
        · split
          · rw [cNear_o _ _ _ _ _ (by omega) h13 h14, ih]
          · exact ih
theorem cMv_f (V : xV) (a b nc k j : Nat) {i : Nat} (h : i ≠ 7) : cMv V a b nc k (20 + 4 * j) i = V (20 + 4 * j) i := by
  have e : ∀ (W : xV) (k f t : Nat), cNear W k f t nc (20 + 4 * j) i = W (20 + 4 * j) i := by
    intro W k f t
    by_cases c : j = k
    · subst c; exact cNear_f _ _ _ _ _ h
    · rw [cNear_o _ _ _ _ _ (by omega) (by omega) (by omega)]
  induction k with
  | zero => rfl
  | succ k ih =>
    unfold cMv
    split
    · exact ih
    · split
      · exact ih
      · split
        · rw [e, ih]
        · split
          · rw [e, ih]
          · exact ih
set_option maxHeartbeats 4000000 in
set_option maxRecDepth 100000 in
theorem c_X2_moveCustody (l : Launch) {D : va_G} {sh : xS} {ad : Nat → Nat} {cI cZ cO : ClassId} {tys : List (ClassId × FieldType)} {nb : Nat} {od : Nat → Nat} (DL : xDl sh ad cI cZ cO tys nb od) (V : xV) (h4 : V 4 2 = nI nb) (h5 : V 5 2 = nI nb) (a b : Nat) (ha : a < 8) (hb8 : b < 8) (nc : Nat) (hnc : V 6 6 = nI nc) (hc30 : nc ≤ 30) (hpl : cPl V nc) (hg : ∀ k, k < nb → V (20 + 4 * k) 1 = nI (V (20 + 4 * k) 1).toNatClampNeg ∧ (V (20 + 4 * k) 1).toNatClampNeg < 8) : xMv l yX2_moveCustody wsX2_moveCustody (rmK 5) D sh ad tys V [.ref (ad 0), .int (nI a), .int (nI b)] (cMv V a b nc nb) := by
  refine xOfv (cc := cX2_moveCustody) (nL := 5) (ret := none) (own := RX2) (by decide) rfl rfl (Nat.le_of_ble_eq_true rfl) DL.2.2.2.2.2.2.1.2.2 ?_
  intro p e s m args below meth c A ls B G hl
  have hx := B.1.1
  have hb := B.1.2.1
  have hin0 : ∀ w ∈ wsX00, w ∈ wsX2_moveCustody := by decide +kernel
  have hin1 : ∀ w ∈ wsX10, w ∈ wsX2_moveCustody := by decide +kernel
  have hin2 : ∀ w ∈ wsX20, w ∈ wsX2_moveCustody := by decide +kernel
  have hinL : ∀ w ∈ wsJx4a65c0, w ∈ wsX2_moveCustody := by decide +kernel
  have hl : lv_has ls 5 [(0, .ref (ad 0)), (1, .int (nI a)), (2, .int (nI b))] := hl
  obtain ⟨Dl, Pl, L4, L5, Bs, od_lt, Cx, tO, hn40⟩ := id DL
  obtain ⟨a4, s4, -⟩ := id L4
  obtain ⟨a5, s5, -⟩ := id L5
  refine lv_iconst (v := 0) hx hb dX2_moveCustody_0 (by decide) ?_
  refine lv_istore_n (lv' := [(3, .int 0), (0, .ref (ad 0)), (1, .int (nI a)), (2, .int (nI b))]) hx hb dX2_moveCustody_1 rfl hl (by decide) rfl (fun ls hl => ?_)
  have loop_2 : ∀ (f i : Nat), i ≤ nb → nb < i + f → ∀ (H : Heap) (locs : List Loc) (ls : Array Slot), xG D sh ad A s.heap (cMv V a b nc i) H locs → lv_has ls 5 [(0, .ref (ad 0)), (1, .int (nI a)), (2, .int (nI b)), (3, .int (nI i))] → W p l e (rmK 5) s m args below meth c H locs 0 0 (xQv below D sh ad tys A args s (cMv V a b nc nb)) (F0 m 2 ls []) := by
    intro f
    induction f with
    | zero => intro i h1 h2; exact absurd h2 (by omega)
    | succ f ih_2 =>
      intro i hi hf H locs ls G hl
      refine lv_iload_n hx hb dX2_moveCustody_2 rfl (lv_at hl 3 rfl) ?_
      refine lv_aload_n hx hb dX2_moveCustody_3 rfl (lv_at hl 0 rfl) ?_
      refine d_getA B G Dl hin2 4 (by decide) (by decide +kernel) dX2_moveCustody_4 ?_
      refine x_callVi (rest := [.int (nI i)]) B G (c_size l Cx.2.2 (cMv V a b nc i) 4 s4) (cwV 0 B.1.2.2.2.2 gX2_moveCustody_Jx4a65c_size_8abf5 rfl rfl rfl (by decide +kernel) ⟨Nat.le_of_ble_eq_true rfl, Nat.le_of_ble_eq_true rfl⟩) (l_recv B G 4 s4) rfl hl.1 rfl (Nat.le_of_ble_eq_true rfl) ⟨Nat.zero_le _, Nat.zero_le _⟩ dX2_moveCustody_7 (fun H locs G => ?_)
      refine x_top (show _ = nI nb from (congrFun (cMv_o V a b nc i (i := 4) (by omega) (by omega) (by omega)) 2).trans h4) ?_
      refine lv_icmp_ge (tgt := 87) hx hb dX2_moveCustody_10 (by decide) (fun c_10 => ?_) (fun c_10 => ?_)
      · skip
        have c_10 : nb ≤ i := (nI_leI (a := nb) (b := i) (by omega) (by omega)).mp c_10
        exact x_vret B G (by rw [show i = nb by omega]) dX2_moveCustody_87
      · skip
        have c_10 : ¬ (nb ≤ i) := fun h9 => c_10 ((nI_leI (a := nb) (b := i) (by omega) (by omega)).mpr h9)
        have q4 : (cMv V a b nc i) 4 2 = nI nb := (congrFun (cMv_o V a b nc i (i := 4) (by omega) (by omega) (by omega)) 2).trans h4
        have q5 : (cMv V a b nc i) 5 2 = nI nb := (congrFun (cMv_o V a b nc i (i := 5) (by omega) (by omega) (by omega)) 2).trans h5
        have q6 : (cMv V a b nc i) 6 6 = nI nc := (congrFun (cMv_o V a b nc i (i := 6) (by omega) (by omega) (by omega)) 6).trans hnc
        have qp : cPl (cMv V a b nc i) nc := hpl.eq (cMv_o V a b nc i (by omega) (by omega) (by omega)) (cMv_o V a b nc i (by omega) (by omega) (by omega))
        have g_0 : (cMv V a b nc i) (20 + 4 * i) 1 = V (20 + 4 * i) 1 := cMv_f V a b nc i i (by decide)
        have g_1 : (cMv V a b nc i) (20 + 4 * i) 1 = nI ((cMv V a b nc i) (20 + 4 * i) 1).toNatClampNeg := by rw [g_0]; exact (hg i (by omega)).1
        have g_2 : ((cMv V a b nc i) (20 + 4 * i) 1).toNatClampNeg < 8 := by rw [g_0]; exact (hg i (by omega)).2
        refine lv_aload_n hx hb dX2_moveCustody_13 rfl (lv_at hl 0 rfl) ?_
        refine d_getA B G Dl hin2 4 (by decide) (by decide +kernel) dX2_moveCustody_14 ?_
        refine lv_iload_n hx hb dX2_moveCustody_17 rfl (lv_at hl 3 rfl) ?_
        refine x_callVq (rest := []) B G (c_get l tO Cx.2.2 (cMv V a b nc i) L4 i (by omega) (by omega) q4) (cwV 1 B.1.2.2.2.2 gX2_moveCustody_Jx4a65c_get_915e3 rfl rfl rfl (by decide +kernel) ⟨Nat.le_of_ble_eq_true rfl, Nat.le_of_ble_eq_true rfl⟩) (l_recv B G 4 s4) rfl hl.1 rfl (Nat.le_of_ble_eq_true rfl) ⟨Nat.zero_le _, Nat.zero_le _⟩ dX2_moveCustody_18 (fun H locs G => ?_)
        refine x_cast B G (20 + 4 * i) (Bs i (by omega)).1 (q := (RX0, TX0, 11)) rfl (by decide +kernel) dX2_moveCustody_21 ?_
        refine lv_astore (lv' := [(4, .ref (ad (20 + 4 * i))), (0, .ref (ad 0)), (1, .int (nI a)), (2, .int (nI b)), (3, .int (nI i))]) hx hb dX2_moveCustody_24 hl (by decide) rfl (fun ls hl => ?_)
        refine lv_aload hx hb dX2_moveCustody_26 (lv_at hl 0 rfl) ?_
        refine lv_iload_n hx hb dX2_moveCustody_28 rfl (lv_at hl 2 rfl) ?_
        refine x_callVi (rest := []) B G (c_X0_isAt l Cx (cMv V a b nc i) (20 + 4 * i) (Bs i (by omega)) a (by omega)) (cwV 1 B.1.2.2.2.2 gX2_moveCustody_X0_isAt rfl rfl rfl (by decide +kernel) ⟨Nat.le_of_ble_eq_true rfl, Nat.le_of_ble_eq_true rfl⟩) (b_recv B G (Bs i (by omega))) rfl hl.1 rfl (Nat.le_of_ble_eq_true rfl) ⟨Nat.zero_le _, Nat.zero_le _⟩ dX2_moveCustody_29 (fun H locs G => ?_)
        refine lv_if_eq (tgt := 81) hx hb dX2_moveCustody_32 (by decide) (fun c_32 => ?_) (fun c_32 => ?_)
        · skip
          refine lv_iinc (v := nI (i + 1)) (lv' := [(3, .int (nI (i + 1))), (4, .ref (ad (20 + 4 * i))), (0, .ref (ad 0)), (1, .int (nI a)), (2, .int (nI b))]) hx hb dX2_moveCustody_81 hl (k := 4) rfl (nI_add i 1) (by decide) rfl (fun ls hl => ?_)
          refine lv_goto (tgt := 2) hx hb dX2_moveCustody_84 (by decide) ?_
          have hl := lv_sub (l' := [(0, .ref (ad 0)), (1, .int (nI a)), (2, .int (nI b)), (3, .int (nI (i + 1)))]) hl [2, 3, 4, 0] rfl
          have eV : cMv V a b nc i = cMv V a b nc (i + 1) := (if_pos (b2i_0.mp c_32)).symm
          rw [eV] at G
          exact ih_2 (i + 1) (by omega) (by omega) _ _ _ G hl
        · skip
          refine lv_aload hx hb dX2_moveCustody_35 (lv_at hl 0 rfl) ?_
          refine lv_iload_n hx hb dX2_moveCustody_37 rfl (lv_at hl 3 rfl) ?_
          refine x_callVi (rest := []) B G (c_X0_isAt l Cx (cMv V a b nc i) (20 + 4 * i) (Bs i (by omega)) b (by omega)) (cwV 1 B.1.2.2.2.2 gX2_moveCustody_X0_isAt rfl rfl rfl (by decide +kernel) ⟨Nat.le_of_ble_eq_true rfl, Nat.le_of_ble_eq_true rfl⟩) (b_recv B G (Bs i (by omega))) rfl hl.1 rfl (Nat.le_of_ble_eq_true rfl) ⟨Nat.zero_le _, Nat.zero_le _⟩ dX2_moveCustody_38 (fun H locs G => ?_)
          refine lv_if_eq (tgt := 81) hx hb dX2_moveCustody_41 (by decide) (fun c_41 => ?_) (fun c_41 => ?_)
          · skip
            refine lv_iinc (v := nI (i + 1)) (lv' := [(3, .int (nI (i + 1))), (4, .ref (ad (20 + 4 * i))), (0, .ref (ad 0)), (1, .int (nI a)), (2, .int (nI b))]) hx hb dX2_moveCustody_81 hl (k := 4) rfl (nI_add i 1) (by decide) rfl (fun ls hl => ?_)
            refine lv_goto (tgt := 2) hx hb dX2_moveCustody_84 (by decide) ?_
            have hl := lv_sub (l' := [(0, .ref (ad 0)), (1, .int (nI a)), (2, .int (nI b)), (3, .int (nI (i + 1)))]) hl [2, 3, 4, 0] rfl
            have eV : cMv V a b nc i = cMv V a b nc (i + 1) := ((if_neg (fun z => z (b2i_1 c_32))).trans (if_pos (b2i_0.mp c_41))).symm
            rw [eV] at G
            exact ih_2 (i + 1) (by omega) (by omega) _ _ _ G hl
          · skip
            refine lv_aload hx hb dX2_moveCustody_44 (lv_at hl 0 rfl) ?_
            refine b_getI B G (Bs i (by omega)) hin0 7 (by decide) (by decide +kernel) dX2_moveCustody_46 ?_
            refine lv_iload_n hx hb dX2_moveCustody_49 rfl (lv_at hl 2 rfl) ?_
            refine lv_icmp_ne (tgt := 64) hx hb dX2_moveCustody_50 (by decide) (fun c_50 => ?_) (fun c_50 => ?_)
            · skip
              refine lv_aload hx hb dX2_moveCustody_64 (lv_at hl 0 rfl) ?_
              refine b_getI B G (Bs i (by omega)) hin0 7 (by decide) (by decide +kernel) dX2_moveCustody_66 ?_
              refine lv_iload_n hx hb dX2_moveCustody_69 rfl (lv_at hl 3 rfl) ?_
              refine lv_icmp_ne (tgt := 81) hx hb dX2_moveCustody_70 (by decide) (fun c_70 => ?_) (fun c_70 => ?_)
              · skip
                refine lv_iinc (v := nI (i + 1)) (lv' := [(3, .int (nI (i + 1))), (4, .ref (ad (20 + 4 * i))), (0, .ref (ad 0)), (1, .int (nI a)), (2, .int (nI b))]) hx hb dX2_moveCustody_81 hl (k := 4) rfl (nI_add i 1) (by decide) rfl (fun ls hl => ?_)
                refine lv_goto (tgt := 2) hx hb dX2_moveCustody_84 (by decide) ?_
                have hl := lv_sub (l' := [(0, .ref (ad 0)), (1, .int (nI a)), (2, .int (nI b)), (3, .int (nI (i + 1)))]) hl [2, 3, 4, 0] rfl
                have eV : cMv V a b nc i = cMv V a b nc (i + 1) := ((if_neg (fun z => z (b2i_1 c_32))).trans ((if_neg (fun z => z (b2i_1 c_41))).trans ((if_neg c_50).trans (if_neg c_70)))).symm
                rw [eV] at G
                exact ih_2 (i + 1) (by omega) (by omega) _ _ _ G hl
              · skip
                refine lv_aload_n hx hb dX2_moveCustody_73 rfl (lv_at hl 1 rfl) ?_
                refine lv_aload hx hb dX2_moveCustody_74 (lv_at hl 0 rfl) ?_
                refine lv_iload_n hx hb dX2_moveCustody_76 rfl (lv_at hl 3 rfl) ?_
                refine lv_iload_n hx hb dX2_moveCustody_77 rfl (lv_at hl 2 rfl) ?_
                refine x_callVv (rest := []) B G (c_X2_moveCustodyIfNearer l DL (cMv V a b nc i) q4 q5 i b a nc (by omega) (by omega) (by omega) g_1 g_2 q6 hc30 qp) (cwV 3 B.1.2.2.2.2 gX2_moveCustody_X2_moveCustodyIfNearer rfl rfl rfl (by decide +kernel) ⟨Nat.le_of_ble_eq_true rfl, Nat.le_of_ble_eq_true rfl⟩) (d_recv B G Dl) rfl hl.1 rfl (Nat.le_of_ble_eq_true rfl) ⟨Nat.zero_le _, Nat.zero_le _⟩ dX2_moveCustody_78 (fun H locs G => ?_)
                refine lv_iinc (v := nI (i + 1)) (lv' := [(3, .int (nI (i + 1))), (4, .ref (ad (20 + 4 * i))), (0, .ref (ad 0)), (1, .int (nI a)), (2, .int (nI b))]) hx hb dX2_moveCustody_81 hl (k := 4) rfl (nI_add i 1) (by decide) rfl (fun ls hl => ?_)
                refine lv_goto (tgt := 2) hx hb dX2_moveCustody_84 (by decide) ?_
                have hl := lv_sub (l' := [(0, .ref (ad 0)), (1, .int (nI a)), (2, .int (nI b)), (3, .int (nI (i + 1)))]) hl [2, 3, 4, 0] rfl
                have eV : cNear (cMv V a b nc i) i b a nc = cMv V a b nc (i + 1) := ((if_neg (fun z => z (b2i_1 c_32))).trans ((if_neg (fun z => z (b2i_1 c_41))).trans ((if_neg c_50).trans (if_pos c_70)))).symm
                rw [eV] at G
                exact ih_2 (i + 1) (by omega) (by omega) _ _ _ G hl
            · skip
              refine lv_aload_n hx hb dX2_moveCustody_53 rfl (lv_at hl 1 rfl) ?_
              refine lv_aload hx hb dX2_moveCustody_54 (lv_at hl 0 rfl) ?_
              refine lv_iload_n hx hb dX2_moveCustody_56 rfl (lv_at hl 2 rfl) ?_
              refine lv_iload_n hx hb dX2_moveCustody_57 rfl (lv_at hl 3 rfl) ?_
              refine x_callVv (rest := []) B G (c_X2_moveCustodyIfNearer l DL (cMv V a b nc i) q4 q5 i a b nc (by omega) (by omega) (by omega) g_1 g_2 q6 hc30 qp) (cwV 3 B.1.2.2.2.2 gX2_moveCustody_X2_moveCustodyIfNearer rfl rfl rfl (by decide +kernel) ⟨Nat.le_of_ble_eq_true rfl, Nat.le_of_ble_eq_true rfl⟩) (d_recv B G Dl) rfl hl.1 rfl (Nat.le_of_ble_eq_true rfl) ⟨Nat.zero_le _, Nat.zero_le _⟩ dX2_moveCustody_58 (fun H locs G => ?_)
              refine lv_goto (tgt := 81) hx hb dX2_moveCustody_61 (by decide) ?_
              refine lv_iinc (v := nI (i + 1)) (lv' := [(3, .int (nI (i + 1))), (4, .ref (ad (20 + 4 * i))), (0, .ref (ad 0)), (1, .int (nI a)), (2, .int (nI b))]) hx hb dX2_moveCustody_81 hl (k := 4) rfl (nI_add i 1) (by decide) rfl (fun ls hl => ?_)
              refine lv_goto (tgt := 2) hx hb dX2_moveCustody_84 (by decide) ?_
              have hl := lv_sub (l' := [(0, .ref (ad 0)), (1, .int (nI a)), (2, .int (nI b)), (3, .int (nI (i + 1)))]) hl [2, 3, 4, 0] rfl
              have eV : cNear (cMv V a b nc i) i a b nc = cMv V a b nc (i + 1) := ((if_neg (fun z => z (b2i_1 c_32))).trans ((if_neg (fun z => z (b2i_1 c_41))).trans (if_pos c_50))).symm
              rw [eV] at G
              exact ih_2 (i + 1) (by omega) (by omega) _ _ _ G hl
  have hl := lv_sub (l' := [(0, .ref (ad 0)), (1, .int (nI a)), (2, .int (nI b)), (3, .int 0)]) hl [1, 2, 3, 0] rfl
  have hl := lv_cast hl (congrArg (fun z : Int32 => ([(0, .ref (ad 0)), (1, .int (nI a)), (2, .int (nI b)), (3, .int z)] : List (Nat × Value))) (show 0 = nI 0 from rfl))
  have eV : V = cMv V a b nc 0 := rfl
  rw [eV] at G
  exact loop_2 (nb + 1) 0 (by omega) (by omega) _ _ _ G hl
