theorem nI_max {a b : Nat} (ha : a < 1000) (hb : b < 1000) : (if nI a < nI b then nI b else nI a) = nI (if a < b then b else a) := by
  by_cases z : a < b
  · rw [if_pos z, if_pos (nI_lt z (by omega))]
  · rw [if_neg z, if_neg (fun y => z ((nI_ltI (a := a) (b := b) (by omega) (by omega)).mp y))]
set_option maxHeartbeats 4000000 in
set_option maxRecDepth 100000 in
theorem c_J8_newLength_cabcc (l : Launch) {D : va_G} {sh : xS} {ad : Nat → Nat} {tys : List (ClassId × FieldType)} (hI : xI sh ad) (V : xV) (o g h M : Nat) (h0 : o < 1000) (h1 : g < 1000) (h2 : h < 1000) (hM : (if g < h then h else g) = M) (hp : 0 < o + M) : xMi l yJ8_newLength_cabcc wsJ8_newLength_cabcc (rmK 1) D sh ad tys V [.int (nI o), .int (nI g), .int (nI h)] (nI (o + M)) V := by
  refine xOfi (cc := cJ8_newLength_cabcc) (nL := 4) (ret := some .int) (own := RJ8) (by decide) rfl rfl (Nat.le_of_ble_eq_true rfl) hI ?_
  intro p e s m args below meth c A ls B G hl
  have hx := B.1.1
  have hb := B.1.2.1
  have hl : lv_has ls 4 [(0, .int (nI o)), (1, .int (nI g)), (2, .int (nI h))] := hl
  refine lv_iload_n hx hb dJ8_newLength_cabcc_0 rfl (lv_at hl 0 rfl) ?_
  refine lv_iload_n hx hb dJ8_newLength_cabcc_1 rfl (lv_at hl 1 rfl) ?_
  refine lv_iload_n hx hb dJ8_newLength_cabcc_2 rfl (lv_at hl 2 rfl) ?_
  refine x_mmax B hl.1 (by decide +kernel) (by decide +kernel) (by decide +kernel) (by decide +kernel) dJ8_newLength_cabcc_3 (Nat.le_of_ble_eq_true rfl) (Nat.le_of_ble_eq_true rfl) ⟨Nat.zero_le _, Nat.zero_le _⟩ ?_
  have hM2 : M < 1000 := by rw [← hM]; split <;> omega
  refine x_top (show _ = nI M from (by rw [← hM]; exact nI_max h1 h2)) ?_
  refine lv_iadd hx hb dJ8_newLength_cabcc_6 ?_
  refine x_top (show (nI o) + (nI M) = nI (o + M) from nI_add o M) ?_
  refine lv_istore_n (lv' := [(3, .int (nI (o + M))), (0, .int (nI o)), (1, .int (nI g)), (2, .int (nI h))]) hx hb dJ8_newLength_cabcc_7 rfl hl (by decide) rfl (fun ls hl => ?_)
  refine lv_iconst (v := 0) hx hb dJ8_newLength_cabcc_8 (by decide) ?_
  refine lv_iload_n hx hb dJ8_newLength_cabcc_9 rfl (lv_at hl 0 rfl) ?_
  refine lv_icmp_ge (tgt := 21) hx hb dJ8_newLength_cabcc_10 (by decide) (fun c_10 => ?_) (fun c_10 => ?_)
  · skip
    have c_10 : (o + M) ≤ 0 := (nI_leI (a := (o + M)) (b := 0) (by omega) (by omega)).mp c_10
    exact absurd c_10 (by omega)
  · skip
    have c_10 : ¬ ((o + M) ≤ 0) := fun h9 => c_10 ((nI_leI (a := (o + M)) (b := 0) (by omega) (by omega)).mpr h9)
    refine lv_iload_n hx hb dJ8_newLength_cabcc_13 rfl (lv_at hl 0 rfl) ?_
    refine lv_ldc (v := 2147483639) hx hb B.1.2.2.2.1 (B.1.2.2.2.2 (Cond.constant RJ8 200 (2147483639)) (by decide +kernel)) dJ8_newLength_cabcc_14 ?_
    refine lv_icmp_gt (tgt := 21) hx hb dJ8_newLength_cabcc_16 (by decide) (fun c_16 => ?_) (fun c_16 => ?_)
    · skip
      have c_16 : 2147483639 < (o + M) := (nI_ltI (a := 2147483639) (b := (o + M)) (by omega) (by omega)).mp c_16
      exact absurd c_16 (by omega)
    · skip
      have c_16 : ¬ (2147483639 < (o + M)) := fun h9 => c_16 ((nI_ltI (a := 2147483639) (b := (o + M)) (by omega) (by omega)).mpr h9)
      refine lv_iload_n hx hb dJ8_newLength_cabcc_19 rfl (lv_at hl 0 rfl) ?_
      exact x_iret B G (rfl) (rfl) dJ8_newLength_cabcc_20
theorem nI_lt0 {a : Nat} (h : a < 2 ^ 31) : ¬ nI a < 0 := nI_pos h
set_option maxHeartbeats 4000000 in
set_option maxRecDepth 100000 in
theorem c_Jx4a65c_rangeCheckForAdd_d00df (l : Launch) {D : va_G} {sh : xS} {ad : Nat → Nat} {tys : List (ClassId × FieldType)} (hI : xI sh ad) (V : xV) (i n j : Nat) {a : Nat} (hs : sh i = some (fun f => .inr (2, lFs a f))) (hn : V i 2 = nI n) (hj : j ≤ n) (hn1 : n < 1000) : xMv l yJx4a65c_rangeCheckForAdd_d00df wsJx4a65c_rangeCheckForAdd_d00df (rmK 0) D sh ad tys V [.ref (ad i), .int (nI j)] V := by
  refine xOfv (cc := cJx4a65c_rangeCheckForAdd_d00df) (nL := 2) (ret := none) (own := RJx4a65c) (by decide) rfl rfl (Nat.le_of_ble_eq_true rfl) hI ?_
  intro p e s m args below meth c A ls B G hl
  have hx := B.1.1
  have hb := B.1.2.1
  have hinL : ∀ w ∈ wsJx4a65c0, w ∈ wsJx4a65c_rangeCheckForAdd_d00df := by decide +kernel
  have hl : lv_has ls 2 [(0, .ref (ad i)), (1, .int (nI j))] := hl
  refine lv_iload_n hx hb dJx4a65c_rangeCheckForAdd_d00df_0 rfl (lv_at hl 1 rfl) ?_
  refine lv_aload_n hx hb dJx4a65c_rangeCheckForAdd_d00df_1 rfl (lv_at hl 0 rfl) ?_
  refine l_getI B G i hs hinL (by decide +kernel) dJx4a65c_rangeCheckForAdd_d00df_2 ?_
  refine x_top (show _ = nI n from hn) ?_
  refine lv_icmp_gt (tgt := 12) hx hb dJx4a65c_rangeCheckForAdd_d00df_5 (by decide) (fun c_5 => ?_) (fun c_5 => ?_)
  · skip
    have c_5 : n < j := (nI_ltI (a := n) (b := j) (by omega) (by omega)).mp c_5
    exact absurd c_5 (by omega)
  · skip
    have c_5 : ¬ (n < j) := fun h9 => c_5 ((nI_ltI (a := n) (b := j) (by omega) (by omega)).mpr h9)
    refine lv_iload_n hx hb dJx4a65c_rangeCheckForAdd_d00df_8 rfl (lv_at hl 1 rfl) ?_
    refine lv_if_ge (tgt := 25) hx hb dJx4a65c_rangeCheckForAdd_d00df_9 (by decide) (fun c_9 => ?_) (fun c_9 => ?_)
    · skip
      have c_9 : 0 ≤ j := (nI_leI (a := 0) (b := j) (by omega) (by omega)).mp c_9
      exact x_vret B G (rfl) dJx4a65c_rangeCheckForAdd_d00df_25
    · exact False.elim (absurd ((nI_leI (a := 0) (b := j) (by omega) (by omega)).mpr (Nat.zero_le j)) (fun z => c_9 z))
/-- a row of Objects -/
def qRow (cO : ClassId) (n : Nat) (g : Nat → Option Nat) : (Nat → Int32) → va_E := fun _ => .inl (cO, n, .inr (.inr (.inr (.inr g))))
def lMk (a : Nat) : (Nat → Int32) → va_E := fun f => .inr (2, lFs a f)
theorem x_arrC {p : Program} {s : State} {m : MethodId} {args : Array Value} {meth : Method} {c : Code} {H : Heap} {locs : List Loc} {cc : ByteArray} {nL : Nat} {ret : Option FieldType} {Ts : List Cond} {own : String} {D : va_G} {sh : xS} {ad : Nat → Nat} {A : Nat → Prop} {tys : List (ClassId × FieldType)} {V : xV}
    (B : xB p s m args meth c cc nL ret Ts own D sh ad A tys) (G : xG D sh ad A s.heap V H locs) {cO : ClassId} (ht : tys[2]? = some (cO, .object "java/lang/Object")) (r : Nat) {n : Nat} {g : Nat → Option Nat} (hr : sh r = some (qRow cO n g)) : ∃ cell : Cell, H[ad r]? = some cell ∧ cell.vm.isStatics = false ∧ s.vm.findClass "[Ljava/lang/Object;" = some cell.cls := by
  obtain ⟨-, kO, compO, g1, g2, g3, g4⟩ := B.2.2.2.1.2 2 _ ht
  exact ⟨_, G.1 r _ hr, rfl, g4⟩
section XSt
variable {p : Program} {l : Launch} {e : Env} {R : Room} {s : State} {m : MethodId} {args : Array Value} {below : List Frame} {meth : Method} {c : Code} {H : Heap} {locs : List Loc} {cells slots : Nat} {Q : State → Prop} {pc : Nat} {ls : Array Slot}
theorem x_stk {st st' : List Value} (h : st = st') (k : W p l e R s m args below meth c H locs cells slots Q (F0 m pc ls st')) : W p l e R s m args below meth c H locs cells slots Q (F0 m pc ls st) := by rw [h]; exact k
end XSt
set_option maxHeartbeats 4000000 in
set_option maxRecDepth 100000 in
theorem c_J7_copyOf_6403c (l : Launch) {D : va_G} {tys : List (ClassId × FieldType)} {mi e0 : Nat} {sh : xS} {ad : Nat → Nat} (hI : xI sh ad) {cO : ClassId} (hT2 : tys[2]? = some (cO, .object "java/lang/Object")) {N : Nat} (h16 : 16 ≤ N) (hN : ∀ j, N ≤ j → sh j = none) (V : xV) (r n0 n1 : Nat) {f : Nat → Option Nat} (hr15 : r ≠ 15) (hr : sh r = some (qRow cO n0 f)) (hn : n0 ≤ n1) (hn1 : n1 ≤ 60) (hel : ∀ i, i < n0 → ∀ y, f i = some y → ∃ (j : Nat) (fs : (Nat → Int32) → List Value), j ≠ 15 ∧ sh j = some (fun z => .inr (3, fs z)) ∧ ad j = y) : xMa l yJ7_copyOf_6403c wsJ7_copyOf_6403c { frames := 1, cells := 1, slots := 60, locals := 100 } D sh ad tys mi e0 V [.ref (ad r), .int (nI n1), .ref mi] (fun v sh' ad' V' => ∃ q9 : Nat, v = some (.ref q9) ∧ sh' = sU sh 15 (qRow cO n1 (va_cpy f (fun _ => none) 0 0 n0)) ∧ ad' = aU ad 15 q9 ∧ V' = vU V 15 (fun _ => 0)) := by
  refine xOfa (cc := cJ7_copyOf_6403c) (nL := 4) (ret := some (.array (.object "java/lang/Object"))) (own := RJ7) (by decide) rfl rfl (Nat.le_of_ble_eq_true rfl) (hI) ?_
  intro p e s m args below meth c A ls hA hname B E G hl
  have hx := B.1.1
  have hb := B.1.2.1
  have hl : lv_has ls 4 [(0, .ref (ad r)), (1, .int (nI n1)), (2, .ref mi)] := hl
  refine lv_aload_n hx hb dJ7_copyOf_6403c_0 rfl (lv_at hl 2 rfl) ?_
  refine va_ldcM hx hb B.1.2.2.2.1 (B.1.2.2.2.2 (.classLink RJ7 110 "[Ljava/lang/Object;") (by decide +kernel)) E.2.1 dJ7_copyOf_6403c_1 ?_
  refine lv_acmp_ne (tgt := 13) (rx := some mi) (ry := some mi) hx hb dJ7_copyOf_6403c_3 (by decide) (fun c_3 => ?_) (fun c_3 => ?_)
  · exact False.elim (c_3 rfl)
  · skip
    refine lv_iload_n hx hb dJ7_copyOf_6403c_6 rfl (lv_at hl 1 rfl) ?_
    refine x_newq B G 15 2 hT2 E.1 (by decide +kernel) (N := n1) (nI_pos (by omega)) (nI_clamp (by omega)) (by omega) (by show 1 ≤ 1; decide) (by show 0 + n1 ≤ 60; omega) dJ7_copyOf_6403c_7 (fun q9 H B G => ?_)
    refine W.widen (k := 1) (n := 60) (Nat.le_refl _) (by omega) ?_
    refine lv_goto (tgt := 24) hx hb dJ7_copyOf_6403c_10 (by decide) ?_
    refine lv_astore_n (lv' := [(3, .ref q9), (0, .ref (ad r)), (1, .int (nI n1)), (2, .ref mi)]) hx hb dJ7_copyOf_6403c_24 rfl hl (by decide) rfl (fun ls hl => ?_)
    refine lv_aload_n hx hb dJ7_copyOf_6403c_25 rfl (lv_at hl 1 rfl) ?_
    refine lv_iconst (v := 0) hx hb dJ7_copyOf_6403c_26 (by decide) ?_
    refine lv_aload_n hx hb dJ7_copyOf_6403c_27 rfl (lv_at hl 0 rfl) ?_
    refine lv_iconst (v := 0) hx hb dJ7_copyOf_6403c_28 (by decide) ?_
    refine lv_aload_n hx hb dJ7_copyOf_6403c_29 rfl (lv_at hl 1 rfl) ?_
    refine x_stk (st' := (.ref (aU ad 15 q9 r) :: [.int 0, .ref q9, .int 0, .ref (ad r)])) (by rw [aU_n _ _ hr15]) ?_
    refine x_alen B G 2 hT2 r ((sU_n _ _ hr15).trans hr) dJ7_copyOf_6403c_30 ?_
    refine lv_iload_n hx hb dJ7_copyOf_6403c_31 rfl (lv_at hl 2 rfl) ?_
    refine x_mmin B hl.1 (by decide +kernel) (by decide +kernel) (by decide +kernel) (by decide +kernel) dJ7_copyOf_6403c_32 (Nat.le_of_ble_eq_true rfl) (Nat.le_of_ble_eq_true rfl) ⟨by show 1 ≤ 1; decide, by show 60 ≤ 60; decide⟩ ?_
    refine x_top (show _ = nI n0 from if_neg (fun z => absurd ((nI_ltI (a := n1) (b := n0) (by omega) (by omega)).mp z) (by omega))) ?_
    refine x_stk (st' := [.int (nI n0), .int (nI 0), .ref (aU ad 15 q9 15), .int (nI 0), .ref (aU ad 15 q9 r)]) (by rw [aU_n _ _ hr15, aU_s]; rfl) ?_
    refine x_copyq B G hl.1 (N := N) (fun j hj => (sU_n _ _ (show j ≠ 15 by omega)).trans (hN j hj)) (by decide +kernel) (by decide +kernel) (by decide +kernel) (by decide +kernel) E.2.2.2.1 2 hT2 r 15 ((sU_n _ _ hr15).trans hr) (sU_s _ _ _) 0 0 n0 (by omega) (by omega) (by omega) (by omega) (fun i hi y hy => ?_) (by decide) (by decide) dJ7_copyOf_6403c_35 (fun H locs B G => ?_)
    · rw [Nat.zero_add] at hy
      obtain ⟨j, fs, h1, h2, h3⟩ := hel i hi y hy
      exact ⟨j, fs, (sU_n _ _ h1).trans h2, (aU_n _ _ h1).trans h3⟩
    · skip
      refine lv_aload_n hx hb dJ7_copyOf_6403c_38 rfl (lv_at hl 0 rfl) ?_
      exact x_aenda hA B G (by first | exact Or.inl ⟨_, rfl⟩ | exact Or.inr ⟨_, rfl⟩) (⟨q9, rfl, sU_sU _ _ _ _, rfl, rfl⟩) (by show 1 ≤ 1; decide) (by show 60 ≤ 60; decide) dJ7_copyOf_6403c_39
set_option maxHeartbeats 4000000 in
set_option maxRecDepth 100000 in
theorem c_J7_copyOf_1904c (l : Launch) {D : va_G} {tys : List (ClassId × FieldType)} {mi e0 : Nat} {sh : xS} {ad : Nat → Nat} (hI : xI sh ad) {cO : ClassId} (hT2 : tys[2]? = some (cO, .object "java/lang/Object")) {N : Nat} (h16 : 16 ≤ N) (hN : ∀ j, N ≤ j → sh j = none) (V : xV) (r n0 n1 : Nat) {f : Nat → Option Nat} (hr15 : r ≠ 15) (hr : sh r = some (qRow cO n0 f)) (hn : n0 ≤ n1) (hn1 : n1 ≤ 60) (hel : ∀ i, i < n0 → ∀ y, f i = some y → ∃ (j : Nat) (fs : (Nat → Int32) → List Value), j ≠ 15 ∧ sh j = some (fun z => .inr (3, fs z)) ∧ ad j = y) : xMa l yJ7_copyOf_1904c wsJ7_copyOf_1904c { frames := 2, cells := 1, slots := 60, locals := 160 } D sh ad tys mi e0 V [.ref (ad r), .int (nI n1)] (fun v sh' ad' V' => ∃ q9 : Nat, v = some (.ref q9) ∧ sh' = sU sh 15 (qRow cO n1 (va_cpy f (fun _ => none) 0 0 n0)) ∧ ad' = aU ad 15 q9 ∧ V' = vU V 15 (fun _ => 0)) := by
  refine xOfa (cc := cJ7_copyOf_1904c) (nL := 2) (ret := some (.array (.object "java/lang/Object"))) (own := RJ7) (by decide) rfl rfl (Nat.le_of_ble_eq_true rfl) (hI) ?_
  intro p e s m args below meth c A ls hA hname B E G hl
  have hx := B.1.1
  have hb := B.1.2.1
  have hl : lv_has ls 2 [(0, .ref (ad r)), (1, .int (nI n1))] := hl
  refine lv_aload_n hx hb dJ7_copyOf_1904c_0 rfl (lv_at hl 0 rfl) ?_
  refine lv_iload_n hx hb dJ7_copyOf_1904c_1 rfl (lv_at hl 1 rfl) ?_
  refine lv_aload_n hx hb dJ7_copyOf_1904c_2 rfl (lv_at hl 0 rfl) ?_
  refine va_getC (C := "[Ljava/lang/Object;") (mi := mi) hx hb (by rw [B.1.2.2.1]; exact hl.1.symm) B.1.2.2.2.1 (B.1.2.2.2.2 (.methodLink RJ7 86 ⟨"java/lang/Object", "getClass", "()Ljava/lang/Class;"⟩) (by decide +kernel)) (va_Nw.use rfl E.2.2.1) (B.1.2.2.2.2 (.selects "[Ljava/lang/Object;" ⟨"java/lang/Object", "getClass", "()Ljava/lang/Class;"⟩ ⟨"java/lang/Object", "getClass", "()Ljava/lang/Class;"⟩) (by decide +kernel)) (B.1.2.2.2.2 (.instanceMethod ⟨"java/lang/Object", "getClass", "()Ljava/lang/Class;"⟩) (by decide +kernel)) (B.1.2.2.2.2 (.native ⟨"java/lang/Object", "getClass", "()Ljava/lang/Class;"⟩) (by decide +kernel)) E.2.1 (x_arrC B G hT2 r hr) (Nat.le_of_ble_eq_true rfl) (Nat.le_of_ble_eq_true rfl) dJ7_copyOf_1904c_3 ?_
  refine x_callSa (rest := []) B E G (c_J7_copyOf_6403c l hI hT2 h16 hN V r n0 n1 hr15 hr hn hn1 hel) (va_cwS 3 B.1.2.2.2.2 gJ7_copyOf_1904c_J7_copyOf_6403c rfl rfl rfl (by decide +kernel) ⟨Nat.le_of_ble_eq_true rfl, Nat.le_of_ble_eq_true rfl⟩) rfl hl.1 rfl (Nat.le_of_ble_eq_true rfl) ⟨Nat.le_of_ble_eq_true rfl, Nat.le_of_ble_eq_true rfl⟩ dJ7_copyOf_1904c_6 (fun v sh9 ad9 V9 H locs hR B G => ?_)
  obtain ⟨q9, rfl, rfl, rfl, rfl⟩ := hR
  refine W.eq (g2 := F0 m 9 ls [.ref q9]) rfl ?_
  exact x_aenda hA B G (by first | exact Or.inl ⟨_, rfl⟩ | exact Or.inr ⟨_, rfl⟩) (⟨q9, rfl, rfl, rfl, rfl⟩) (by show 1 ≤ 1; decide) (by show 60 ≤ 60; decide) dJ7_copyOf_1904c_9
theorem nI_half : ∀ n : Fin 41, nI n.val >>> (1 &&& 31) = nI (n.val / 2) := by decide +kernel
theorem nI_sub1 (n : Nat) : nI (n + 1) - nI n = nI 1 := by
  rw [← nI_add, Int32.add_comm, Int32.add_sub_cancel]
set_option maxHeartbeats 4000000 in
set_option maxRecDepth 100000 in
theorem c_grow92_e (l : Launch) {D : va_G} {tys : List (ClassId × FieldType)} {mi e0 : Nat} {sh : xS} {ad : Nat → Nat} (hI : xI sh ad) {cO : ClassId} (hT2 : tys[2]? = some (cO, .object "java/lang/Object")) {N : Nat} (h16 : 16 ≤ N) (hN : ∀ j, N ≤ j → sh j = none) (V : xV) (i : Nat) (hi15 : i ≠ 15) (f : Nat → Option Nat) (hs : sh i = some (lMk e0)) : xMa l yJx4a65c_grow_92f84 wsJx4a65c_grow_92f84 { frames := 3, cells := 1, slots := 60, locals := 220 } D sh ad tys mi e0 V [.ref (ad i), .int (nI 1)] (fun v sh' ad' V' => ∃ (q9 N9 : Nat) (g : Nat → Option Nat), v = some (.ref q9) ∧ sh' = sU (sU sh 15 (qRow cO N9 g)) i (lMk q9) ∧ ad' = aU ad 15 q9 ∧ V' = vU V 15 (fun _ => 0) ∧ 0 < N9 ∧ N9 ≤ 60 ∧ ∀ j, j < 0 → g j = f j) := by
  refine xOfa (cc := cJx4a65c_grow_92f84) (nL := 4) (ret := some (.array (.object "java/lang/Object"))) (own := RJx4a65c) (by decide) rfl rfl (Nat.le_of_ble_eq_true rfl) (hI) ?_
  intro p e s m args below meth c A ls hA hname B E G hl
  have hx := B.1.1
  have hb := B.1.2.1
  have hinL : ∀ w ∈ wsJx4a65c0, w ∈ wsJx4a65c_grow_92f84 := by decide +kernel
  have hl : lv_has ls 4 [(0, .ref (ad i)), (1, .int (nI 1))] := hl
  obtain ⟨fv, hT0⟩ := E.2.2.2.2.2
  refine lv_aload_n hx hb dJx4a65c_grow_92f84_0 rfl (lv_at hl 0 rfl) ?_
  refine l_getA B G i hs hinL (by decide +kernel) dJx4a65c_grow_92f84_1 ?_
  refine va_tlen (v := 0) hx hb hT0 G.2 rfl dJx4a65c_grow_92f84_4 ?_
  refine lv_istore_n (lv' := [(2, .int 0), (0, .ref (ad i)), (1, .int (nI 1))]) hx hb dJx4a65c_grow_92f84_5 rfl hl (by decide) rfl (fun ls hl => ?_)
  refine lv_iload_n hx hb dJx4a65c_grow_92f84_6 rfl (lv_at hl 0 rfl) ?_
  refine lv_if_gt (tgt := 20) hx hb dJx4a65c_grow_92f84_7 (by decide) (fun c_7 => ?_) (fun c_7 => ?_)
  · exact False.elim (absurd c_7 (by decide))
  · skip
    refine lv_aload_n hx hb dJx4a65c_grow_92f84_10 rfl (lv_at hl 1 rfl) ?_
    refine l_getA B G i hs hinL (by decide +kernel) dJx4a65c_grow_92f84_11 ?_
    refine va_gets hx hb E.2.2.2.2.1 G.2 B.1.2.2.2.1 (B.1.2.2.2.2 (.fieldLink RJx4a65c 39 "java/util/ArrayList" "DEFAULTCAPACITY_EMPTY_ELEMENTDATA" "[Ljava/lang/Object;") (by decide +kernel)) (fun x h => h) dJx4a65c_grow_92f84_14 ?_
    refine lv_acmp_eq (tgt := 45) (rx := some e0) (ry := some e0) hx hb dJx4a65c_grow_92f84_17 (by decide) (fun c_17 => ?_) (fun c_17 => ?_)
    · skip
      refine lv_aload_n hx hb dJx4a65c_grow_92f84_45 rfl (lv_at hl 1 rfl) ?_
      refine lv_bipush (v := 10) hx hb dJx4a65c_grow_92f84_46 (by decide) ?_
      refine lv_iload_n hx hb dJx4a65c_grow_92f84_48 rfl (lv_at hl 2 rfl) ?_
      refine x_mmax B hl.1 (by decide +kernel) (by decide +kernel) (by decide +kernel) (by decide +kernel) dJx4a65c_grow_92f84_49 (Nat.le_of_ble_eq_true rfl) (Nat.le_of_ble_eq_true rfl) ⟨by show 0 ≤ 1; decide, by show 0 ≤ 60; decide⟩ ?_
      refine x_top (show _ = nI 10 from by decide) ?_
      refine x_newq B G 15 2 hT2 E.1 (by decide +kernel) (N := 10) (nI_pos (by omega)) (nI_clamp (by omega)) (by omega) (by show 1 ≤ 1; decide) (by show 0 + 10 ≤ 60; omega) dJx4a65c_grow_92f84_52 (fun q9 H B G => ?_)
      refine W.widen (k := 1) (n := 60) (Nat.le_refl _) (by omega) ?_
      refine lv_dup_x1 hx hb dJx4a65c_grow_92f84_55 rfl rfl ?_
      refine x_stk (st' := (.ref q9 :: .ref (aU ad 15 q9 i) :: [.ref q9])) (by rw [aU_n _ _ hi15]) ?_
      refine x_putR B G i (C := RJx4a65c) (T := TJx4a65c) (N := 3) (ci := 2) (fs' := fun f => lFs q9 f) ((sU_n _ _ hi15).trans hs) rfl hinL tyJx4a65c tyJx4a65c_ok nmJx4a65c 1 (by omega) (by decide +kernel) (fun x h => h) (Or.inl rfl) (ty := (.array (.object "java/lang/Object"))) (by decide +kernel) rfl rfl (V' := vU V 15 (fun _ => 0)) (fun _ _ => rfl) rfl (Nat.le_of_ble_eq_true rfl) dJx4a65c_grow_92f84_56 (fun H locs B G => ?_)
      exact x_aenda hA B G (by first | exact Or.inl ⟨_, rfl⟩ | exact Or.inr ⟨_, rfl⟩) (⟨q9, 10, _, rfl, rfl, rfl, rfl, by decide, by decide, fun j hj => absurd hj (Nat.not_lt_zero j)⟩) (by show 1 ≤ 1; decide) (by show 60 ≤ 60; decide) dJx4a65c_grow_92f84_59
    · exact False.elim (c_17 rfl)
set_option maxHeartbeats 4000000 in
set_option maxRecDepth 100000 in
theorem c_grow92_n (l : Launch) {D : va_G} {tys : List (ClassId × FieldType)} {mi e0 : Nat} {sh : xS} {ad : Nat → Nat} (hI : xI sh ad) {cO : ClassId} (hT2 : tys[2]? = some (cO, .object "java/lang/Object")) {N : Nat} (h16 : 16 ≤ N) (hN : ∀ j, N ≤ j → sh j = none) (V : xV) (i : Nat) (hi15 : i ≠ 15) (r n : Nat) (hr15 : r ≠ 15) (f : Nat → Option Nat) (hs : sh i = some (lMk (ad r))) (hr : sh r = some (qRow cO n f)) (hn1 : 1 ≤ n) (hn40 : n ≤ 40) (hel : ∀ i, i < n → ∀ y, f i = some y → ∃ (j : Nat) (fs : (Nat → Int32) → List Value), j ≠ 15 ∧ sh j = some (fun z => .inr (3, fs z)) ∧ ad j = y) : xMa l yJx4a65c_grow_92f84 wsJx4a65c_grow_92f84 { frames := 3, cells := 1, slots := 60, locals := 220 } D sh ad tys mi e0 V [.ref (ad i), .int (nI (n + 1))] (fun v sh' ad' V' => ∃ (q9 N9 : Nat) (g : Nat → Option Nat), v = some (.ref q9) ∧ sh' = sU (sU sh 15 (qRow cO N9 g)) i (lMk q9) ∧ ad' = aU ad 15 q9 ∧ V' = vU V 15 (fun _ => 0) ∧ n < N9 ∧ N9 ≤ 60 ∧ ∀ j, j < n → g j = f j) := by
  refine xOfa (cc := cJx4a65c_grow_92f84) (nL := 4) (ret := some (.array (.object "java/lang/Object"))) (own := RJx4a65c) (by decide) rfl rfl (Nat.le_of_ble_eq_true rfl) (hI) ?_
  intro p e s m args below meth c A ls hA hname B E G hl
  have hx := B.1.1
  have hb := B.1.2.1
  have hinL : ∀ w ∈ wsJx4a65c0, w ∈ wsJx4a65c_grow_92f84 := by decide +kernel
  have hl : lv_has ls 4 [(0, .ref (ad i)), (1, .int (nI (n + 1)))] := hl
  refine lv_aload_n hx hb dJx4a65c_grow_92f84_0 rfl (lv_at hl 0 rfl) ?_
  refine l_getA B G i hs hinL (by decide +kernel) dJx4a65c_grow_92f84_1 ?_
  refine x_alen B G 2 hT2 r hr dJx4a65c_grow_92f84_4 ?_
  refine lv_istore_n (lv' := [(2, .int (nI n)), (0, .ref (ad i)), (1, .int (nI (n + 1)))]) hx hb dJx4a65c_grow_92f84_5 rfl hl (by decide) rfl (fun ls hl => ?_)
  refine lv_iload_n hx hb dJx4a65c_grow_92f84_6 rfl (lv_at hl 0 rfl) ?_
  refine lv_if_gt (tgt := 20) hx hb dJx4a65c_grow_92f84_7 (by decide) (fun c_7 => ?_) (fun c_7 => ?_)
  · skip
    refine lv_iload_n hx hb dJx4a65c_grow_92f84_20 rfl (lv_at hl 0 rfl) ?_
    refine lv_iload_n hx hb dJx4a65c_grow_92f84_21 rfl (lv_at hl 2 rfl) ?_
    refine lv_iload_n hx hb dJx4a65c_grow_92f84_22 rfl (lv_at hl 0 rfl) ?_
    refine lv_isub hx hb dJx4a65c_grow_92f84_23 ?_
    refine x_top (show (nI (n + 1)) - (nI n) = nI 1 from nI_sub1 n) ?_
    refine lv_iload_n hx hb dJx4a65c_grow_92f84_24 rfl (lv_at hl 0 rfl) ?_
    refine lv_iconst (v := 1) hx hb dJx4a65c_grow_92f84_25 (by decide) ?_
    refine lv_ishr hx hb dJx4a65c_grow_92f84_26 ?_
    refine x_top (show _ = nI (n / 2) from nI_half ⟨n, by omega⟩) ?_
    obtain ⟨M, hM⟩ : ∃ z, (if 1 < n / 2 then n / 2 else 1) = z := ⟨_, rfl⟩
    have hM2 : 1 ≤ M ∧ M ≤ 20 := by rw [← hM]; split <;> omega
    refine x_callSi (rest := []) B G (c_J8_newLength_cabcc l hI V n 1 (n / 2) M (by omega) (by omega) (by omega) hM (by omega)) (va_cwS 3 B.1.2.2.2.2 gJx4a65c_grow_92f84_J8_newLength_cabcc rfl rfl rfl (by decide +kernel) ⟨Nat.le_of_ble_eq_true rfl, Nat.le_of_ble_eq_true rfl⟩) rfl hl.1 rfl (Nat.le_of_ble_eq_true rfl) ⟨Nat.zero_le _, Nat.zero_le _⟩ dJx4a65c_grow_92f84_27 (fun H locs G => ?_)
    refine lv_istore_n (lv' := [(3, .int (nI (n + M))), (2, .int (nI n)), (0, .ref (ad i)), (1, .int (nI (n + 1)))]) hx hb dJx4a65c_grow_92f84_30 rfl hl (by decide) rfl (fun ls hl => ?_)
    refine lv_aload_n hx hb dJx4a65c_grow_92f84_31 rfl (lv_at hl 2 rfl) ?_
    refine lv_aload_n hx hb dJx4a65c_grow_92f84_32 rfl (lv_at hl 2 rfl) ?_
    refine l_getA B G i hs hinL (by decide +kernel) dJx4a65c_grow_92f84_33 ?_
    refine lv_iload_n hx hb dJx4a65c_grow_92f84_36 rfl (lv_at hl 0 rfl) ?_
    refine x_callSa (rest := [.ref (ad i)]) B E G (c_J7_copyOf_1904c l hI hT2 h16 hN V r n (n + M) hr15 hr (by omega) (by omega) hel) (va_cwS 2 B.1.2.2.2.2 gJx4a65c_grow_92f84_J7_copyOf_1904c rfl rfl rfl (by decide +kernel) ⟨Nat.le_of_ble_eq_true rfl, Nat.le_of_ble_eq_true rfl⟩) rfl hl.1 rfl (Nat.le_of_ble_eq_true rfl) ⟨Nat.le_of_ble_eq_true rfl, Nat.le_of_ble_eq_true rfl⟩ dJx4a65c_grow_92f84_37 (fun v sh9 ad9 V9 H locs hR B G => ?_)
    obtain ⟨q9, rfl, rfl, rfl, rfl⟩ := hR
    refine W.eq (g2 := F0 m 40 ls (.ref q9 :: [.ref (ad i)])) rfl ?_
    refine lv_dup_x1 hx hb dJx4a65c_grow_92f84_40 rfl rfl ?_
    refine x_stk (st' := (.ref q9 :: .ref (aU ad 15 q9 i) :: [.ref q9])) (by rw [aU_n _ _ hi15]) ?_
    refine x_putR B G i (C := RJx4a65c) (T := TJx4a65c) (N := 3) (ci := 2) (fs' := fun f => lFs q9 f) ((sU_n _ _ hi15).trans hs) rfl hinL tyJx4a65c tyJx4a65c_ok nmJx4a65c 1 (by omega) (by decide +kernel) (fun x h => h) (Or.inl rfl) (ty := (.array (.object "java/lang/Object"))) (by decide +kernel) rfl rfl (V' := vU V 15 (fun _ => 0)) (fun _ _ => rfl) rfl (Nat.le_of_ble_eq_true rfl) dJx4a65c_grow_92f84_41 (fun H locs B G => ?_)
    exact x_aenda hA B G (by first | exact Or.inl ⟨_, rfl⟩ | exact Or.inr ⟨_, rfl⟩) (⟨q9, n + M, _, rfl, rfl, rfl, rfl, by omega, by omega, fun j hj => by simp only [va_cpy, Nat.zero_le, Nat.zero_add, Nat.sub_zero, true_and]; rw [if_pos hj]⟩) (by show 1 ≤ 1; decide) (by show 60 ≤ 60; decide) dJx4a65c_grow_92f84_44
  · exact False.elim (c_7 ((nI_ltI (a := 0) (b := n) (by omega) (by omega)).mpr (by omega)))
set_option maxHeartbeats 4000000 in
set_option maxRecDepth 100000 in
theorem c_grow_e (l : Launch) {D : va_G} {tys : List (ClassId × FieldType)} {mi e0 : Nat} {sh : xS} {ad : Nat → Nat} (hI : xI sh ad) {cO : ClassId} (hT2 : tys[2]? = some (cO, .object "java/lang/Object")) {N : Nat} (h16 : 16 ≤ N) (hN : ∀ j, N ≤ j → sh j = none) (V : xV) (i : Nat) (hi15 : i ≠ 15) (f : Nat → Option Nat) (hs : sh i = some (lMk e0)) (hz : V i 2 = nI 0) : xMa l yJx4a65c_grow_d5877 wsJx4a65c_grow_d5877 { frames := 4, cells := 1, slots := 60, locals := 280 } D sh ad tys mi e0 V [.ref (ad i)] (fun v sh' ad' V' => ∃ (q9 N9 : Nat) (g : Nat → Option Nat), v = some (.ref q9) ∧ sh' = sU (sU sh 15 (qRow cO N9 g)) i (lMk q9) ∧ ad' = aU ad 15 q9 ∧ V' = vU V 15 (fun _ => 0) ∧ 0 < N9 ∧ N9 ≤ 60 ∧ ∀ j, j < 0 → g j = f j) := by
  refine xOfa (cc := cJx4a65c_grow_d5877) (nL := 1) (ret := some (.array (.object "java/lang/Object"))) (own := RJx4a65c) (by decide) rfl rfl (Nat.le_of_ble_eq_true rfl) (hI) ?_
  intro p e s m args below meth c A ls hA hname B E G hl
  have hx := B.1.1
  have hb := B.1.2.1
  have hinL : ∀ w ∈ wsJx4a65c0, w ∈ wsJx4a65c_grow_d5877 := by decide +kernel
  have hl : lv_has ls 1 [(0, .ref (ad i))] := hl
  refine lv_aload_n hx hb dJx4a65c_grow_d5877_0 rfl (lv_at hl 0 rfl) ?_
  refine lv_aload_n hx hb dJx4a65c_grow_d5877_1 rfl (lv_at hl 0 rfl) ?_
  refine l_getI B G i hs hinL (by decide +kernel) dJx4a65c_grow_d5877_2 ?_
  refine x_top (show _ = nI 0 from hz) ?_
  refine lv_iconst (v := 1) hx hb dJx4a65c_grow_d5877_5 (by decide) ?_
  refine lv_iadd hx hb dJx4a65c_grow_d5877_6 ?_
  refine x_top (show (nI 0) + 1 = nI (0 + 1) from nI_add 0 1) ?_
  refine x_callVa (rest := []) B E G (c_grow92_e l hI hT2 h16 hN V i hi15 f hs) (cwV 1 B.1.2.2.2.2 gJx4a65c_grow_d5877_Jx4a65c_grow_92f84 rfl rfl rfl (by decide +kernel) ⟨Nat.le_of_ble_eq_true rfl, Nat.le_of_ble_eq_true rfl⟩) (l_recv B G i hs) rfl hl.1 rfl (Nat.le_of_ble_eq_true rfl) ⟨Nat.le_of_ble_eq_true rfl, Nat.le_of_ble_eq_true rfl⟩ dJx4a65c_grow_d5877_7 (fun v sh9 ad9 V9 H locs hR B G => ?_)
  obtain ⟨q9, N9, g, rfl, rfl, rfl, rfl, h1, h2, h3⟩ := hR
  refine W.eq (g2 := F0 m 10 ls [.ref q9]) rfl ?_
  exact x_aenda hA B G (by first | exact Or.inl ⟨_, rfl⟩ | exact Or.inr ⟨_, rfl⟩) (⟨q9, N9, g, rfl, rfl, rfl, rfl, h1, h2, h3⟩) (by show 1 ≤ 1; decide) (by show 60 ≤ 60; decide) dJx4a65c_grow_d5877_10
set_option maxHeartbeats 4000000 in
set_option maxRecDepth 100000 in
theorem c_grow_n (l : Launch) {D : va_G} {tys : List (ClassId × FieldType)} {mi e0 : Nat} {sh : xS} {ad : Nat → Nat} (hI : xI sh ad) {cO : ClassId} (hT2 : tys[2]? = some (cO, .object "java/lang/Object")) {N : Nat} (h16 : 16 ≤ N) (hN : ∀ j, N ≤ j → sh j = none) (V : xV) (i : Nat) (hi15 : i ≠ 15) (r n : Nat) (hr15 : r ≠ 15) (f : Nat → Option Nat) (hs : sh i = some (lMk (ad r))) (hr : sh r = some (qRow cO n f)) (hn1 : 1 ≤ n) (hn40 : n ≤ 40) (hel : ∀ i, i < n → ∀ y, f i = some y → ∃ (j : Nat) (fs : (Nat → Int32) → List Value), j ≠ 15 ∧ sh j = some (fun z => .inr (3, fs z)) ∧ ad j = y) (hz : V i 2 = nI n) : xMa l yJx4a65c_grow_d5877 wsJx4a65c_grow_d5877 { frames := 4, cells := 1, slots := 60, locals := 280 } D sh ad tys mi e0 V [.ref (ad i)] (fun v sh' ad' V' => ∃ (q9 N9 : Nat) (g : Nat → Option Nat), v = some (.ref q9) ∧ sh' = sU (sU sh 15 (qRow cO N9 g)) i (lMk q9) ∧ ad' = aU ad 15 q9 ∧ V' = vU V 15 (fun _ => 0) ∧ n < N9 ∧ N9 ≤ 60 ∧ ∀ j, j < n → g j = f j) := by
  refine xOfa (cc := cJx4a65c_grow_d5877) (nL := 1) (ret := some (.array (.object "java/lang/Object"))) (own := RJx4a65c) (by decide) rfl rfl (Nat.le_of_ble_eq_true rfl) (hI) ?_
  intro p e s m args below meth c A ls hA hname B E G hl
  have hx := B.1.1
  have hb := B.1.2.1
  have hinL : ∀ w ∈ wsJx4a65c0, w ∈ wsJx4a65c_grow_d5877 := by decide +kernel
  have hl : lv_has ls 1 [(0, .ref (ad i))] := hl
  refine lv_aload_n hx hb dJx4a65c_grow_d5877_0 rfl (lv_at hl 0 rfl) ?_
  refine lv_aload_n hx hb dJx4a65c_grow_d5877_1 rfl (lv_at hl 0 rfl) ?_
  refine l_getI B G i hs hinL (by decide +kernel) dJx4a65c_grow_d5877_2 ?_
  refine x_top (show _ = nI n from hz) ?_
  refine lv_iconst (v := 1) hx hb dJx4a65c_grow_d5877_5 (by decide) ?_
  refine lv_iadd hx hb dJx4a65c_grow_d5877_6 ?_
  refine x_top (show (nI n) + 1 = nI (n + 1) from nI_add n 1) ?_
  refine x_callVa (rest := []) B E G (c_grow92_n l hI hT2 h16 hN V i hi15 r n hr15 f hs hr hn1 hn40 hel) (cwV 1 B.1.2.2.2.2 gJx4a65c_grow_d5877_Jx4a65c_grow_92f84 rfl rfl rfl (by decide +kernel) ⟨Nat.le_of_ble_eq_true rfl, Nat.le_of_ble_eq_true rfl⟩) (l_recv B G i hs) rfl hl.1 rfl (Nat.le_of_ble_eq_true rfl) ⟨Nat.le_of_ble_eq_true rfl, Nat.le_of_ble_eq_true rfl⟩ dJx4a65c_grow_d5877_7 (fun v sh9 ad9 V9 H locs hR B G => ?_)
  obtain ⟨q9, N9, g, rfl, rfl, rfl, rfl, h1, h2, h3⟩ := hR
  refine W.eq (g2 := F0 m 10 ls [.ref q9]) rfl ?_
  exact x_aenda hA B G (by first | exact Or.inl ⟨_, rfl⟩ | exact Or.inr ⟨_, rfl⟩) (⟨q9, N9, g, rfl, rfl, rfl, rfl, h1, h2, h3⟩) (by show 1 ≤ 1; decide) (by show 60 ≤ 60; decide) dJx4a65c_grow_d5877_10
/-- the list i has got one thing more, its row is named r -/
def lAdd (sh : xS) (ad : Nat → Nat) (cO : ClassId) (V : xV) (i r n : Nat) (el : Nat → Option Nat) (sh' : xS) (ad' : Nat → Nat) (V' : xV) : Prop :=
  ∃ (q N9 : Nat) (g : Nat → Option Nat), sh' = sU (sU sh r (qRow cO N9 g)) i (lMk q) ∧ ad' = aU ad r q ∧ V' = xu V i 2 (nI (n + 1)) ∧ n + 1 ≤ N9 ∧ N9 ≤ 60 ∧ ∀ j, j ≤ n → g j = el j
section LAdd
variable {p : Program} {s : State} {m : MethodId} {args : Array Value} {meth : Method} {c : Code} {H : Heap} {locs : List Loc} {cc : ByteArray} {nL : Nat} {ret : Option FieldType} {Ts : List Cond} {own : String} {D : va_G} {sh : xS} {ad : Nat → Nat} {A : Nat → Prop} {tys : List (ClassId × FieldType)} {V : xV}
/-- from the row's passing name 15 to its lasting one -/
theorem x_ren {cO : ClassId} {i r q N9 : Nat} {g : Nat → Option Nat} {V1 V2 : xV} (hi15 : i ≠ 15) (hr15 : r ≠ 15) (hir : i ≠ r) (h15 : sh 15 = none)
    (B : xB p s m args meth c cc nL ret Ts own D (sU (sU sh 15 (qRow cO N9 g)) i (lMk q)) (aU ad 15 q) A tys) (G : xG D (sU (sU sh 15 (qRow cO N9 g)) i (lMk q)) (aU ad 15 q) A s.heap V1 H locs) (hV : ∀ j, j ≠ 15 → V1 j = V2 j) :
    xB p s m args meth c cc nL ret Ts own D (sU (sU sh r (qRow cO N9 g)) i (lMk q)) (aU ad r q) A tys ∧ xG D (sU (sU sh r (qRow cO N9 g)) i (lMk q)) (aU ad r q) A s.heap V2 H locs := by
  have key : ∀ (a : Nat) (mk : (Nat → Int32) → va_E), sU (sU sh r (qRow cO N9 g)) i (lMk q) a = some mk → ∃ (j : Nat) (mj : (Nat → Int32) → va_E), sU (sU sh 15 (qRow cO N9 g)) i (lMk q) j = some mj ∧ aU ad 15 q j = aU ad r q a ∧ mj (V1 j) = mk (V2 a) ∧ (a = r → j = 15) ∧ (a ≠ r → j = a ∧ a ≠ 15) := by
    intro a mk h
    by_cases ea : a = i
    · subst ea
      rw [sU_s] at h
      exact ⟨a, lMk q, sU_s _ _ _, by rw [aU_n _ _ hi15, aU_n _ _ hir], by rw [hV a hi15]; cases h; rfl, fun z => absurd z hir, fun _ => ⟨rfl, hi15⟩⟩
    · rw [sU_n _ _ ea] at h
      by_cases er : a = r
      · subst er
        rw [sU_s] at h
        refine ⟨15, qRow cO N9 g, ?_, by rw [aU_s, aU_s], by cases h; rfl, fun _ => rfl, fun z => absurd rfl z⟩
        rw [sU_n _ _ (Ne.symm hi15), sU_s]
      · rw [sU_n _ _ er] at h
        have e15 : a ≠ 15 := fun z => by rw [z, h15] at h; cases h
        refine ⟨a, mk, ?_, by rw [aU_n _ _ e15, aU_n _ _ er], by rw [hV a e15], fun z => absurd z er, fun _ => ⟨rfl, e15⟩⟩
        rw [sU_n _ _ ea, sU_n _ _ e15, h]
  refine ⟨B.re (fun a mk h => ?_) ?_, G.re (fun a mk h => ?_)⟩
  · obtain ⟨j, mj, h1, h2, -⟩ := key a mk h
    exact ⟨j, mj, h1, h2⟩
  · intro a b ma mb ha hb hab
    obtain ⟨j, mj, h1, h2, -, h3, h4⟩ := key a ma ha
    obtain ⟨k, mk, g1, g2, -, g3, g4⟩ := key b mb hb
    have e := B.2.2.2.2.1 j k mj mk h1 g1 (by rw [h2, g2]; exact hab)
    by_cases ea : a = r
    · by_cases eb : b = r
      · rw [ea, eb]
      · obtain ⟨x1, x2⟩ := g4 eb
        rw [h3 ea, x1] at e
        exact absurd e.symm x2
    · obtain ⟨x1, x2⟩ := h4 ea
      by_cases eb : b = r
      · rw [x1, g3 eb] at e
        exact absurd e x2
      · rw [x1, (g4 eb).1] at e
        exact e
  · obtain ⟨j, mj, h1, h2, h3, -⟩ := key a mk h
    exact ⟨j, mj, h1, h2, h3⟩
/-- no new row: the same world told in the new form -/
theorem x_keepr {cO : ClassId} {i r N9 : Nat} {g : Nat → Option Nat} {V2 : xV} (hir : i ≠ r) (hs : sh i = some (lMk (ad r)))
    (B : xB p s m args meth c cc nL ret Ts own D (sU sh r (qRow cO N9 g)) ad A tys) (G : xG D (sU sh r (qRow cO N9 g)) ad A s.heap V2 H locs) :
    xB p s m args meth c cc nL ret Ts own D (sU (sU sh r (qRow cO N9 g)) i (lMk (ad r))) (aU ad r (ad r)) A tys ∧ xG D (sU (sU sh r (qRow cO N9 g)) i (lMk (ad r))) (aU ad r (ad r)) A s.heap V2 H locs := by
  have e1 : sU (sU sh r (qRow cO N9 g)) i (lMk (ad r)) = sU sh r (qRow cO N9 g) := by
    funext j
    by_cases e : j = i
    · subst e; rw [sU_s, sU_n _ _ hir, hs]
    · rw [sU_n _ _ e]
  have e2 : aU ad r (ad r) = ad := by
    funext j
    by_cases e : j = r
    · subst e; rw [aU_s]
    · rw [aU_n _ _ e]
  rw [e1, e2]
  exact ⟨B, G⟩
end LAdd
