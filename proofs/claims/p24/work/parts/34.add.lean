theorem sU_mid {sh : xS} {a b : Nat} {x y z : (Nat → Int32) → va_E} (h : a ≠ b) : sU (sU (sU sh a x) b y) a z = sU (sU sh a z) b y := by
  funext j
  by_cases e : j = a
  · subst e; rw [sU_s, sU_n _ _ h, sU_s]
  · rw [sU_n _ _ e]
    by_cases e2 : j = b
    · subst e2; rw [sU_s, sU_s]
    · rw [sU_n _ _ e2, sU_n _ _ e2, sU_n _ _ e, sU_n _ _ e]
theorem sU_id {sh : xS} {i : Nat} {mk : (Nat → Int32) → va_E} (h : sh i = some mk) : sU sh i mk = sh := by
  funext j
  by_cases e : j = i
  · subst e; rw [sU_s, h]
  · rw [sU_n _ _ e]
def lEnd (f : Nat → Option Nat) (n : Nat) (x : Option Nat) : Nat → Option Nat := fun j => if j < n then f j else x
theorem lEnd_lt {f : Nat → Option Nat} {n j : Nat} {x : Option Nat} (h : j < n) : lEnd f n x j = f j := if_pos h
theorem lEnd_at {f : Nat → Option Nat} {n j : Nat} {x : Option Nat} (h : ¬ j < n) : lEnd f n x j = x := if_neg h
set_option maxHeartbeats 400000 in
set_option maxRecDepth 100000 in
theorem c_Jx4a65c_add_72be8 (l : Launch) {D : va_G} {tys : List (ClassId × FieldType)} {mi e0 : Nat} {sh : xS} {ad : Nat → Nat} (hI : xI sh ad) {cO : ClassId} (hT2 : tys[2]? = some (cO, .object "java/lang/Object")) {N : Nat} (h16 : 16 ≤ N) (hN : ∀ j, N ≤ j → sh j = none) (V : xV) (i r v n ea : Nat) (hi15 : i ≠ 15) (hr15 : r ≠ 15) (hv15 : v ≠ 15) (hir : i ≠ r) (hiv : v ≠ i) (hvr : v ≠ r) (h15 : sh 15 = none) (f : Nat → Option Nat) (hs : sh i = some (lMk ea)) (hz : V i 2 = nI n) (hn40 : n ≤ 40) (hc : (n = 0 ∧ ea = e0) ∨ (1 ≤ n ∧ ea = ad r ∧ ∃ cap, n ≤ cap ∧ cap ≤ 60 ∧ sh r = some (qRow cO cap f))) {fv : (Nat → Int32) → List Value} (hv : sh v = some (fun z => .inr (3, fv z))) (hel : ∀ j, j < n → ∃ (k : Nat) (fs : (Nat → Int32) → List Value), k ≠ 15 ∧ k ≠ i ∧ k ≠ r ∧ sh k = some (fun z => .inr (3, fs z)) ∧ f j = some (ad k)) (hrN : ¬ N ≤ r) : xMa l yJx4a65c_add_72be8 wsJx4a65c_add_72be8 { frames := 5, cells := 1, slots := 60, locals := 340 } D sh ad tys mi e0 V [.ref (ad i), .ref (ad v), .ref ea, .int (nI n)] (fun w sh' ad' V' => w = none ∧ lAdd sh ad cO V i r n (lEnd f n (some (ad v))) sh' ad' V') := by
  refine xOfa (cc := cJx4a65c_add_72be8) (nL := 4) (ret := none) (own := RJx4a65c) (by decide) rfl rfl (Nat.le_of_ble_eq_true rfl) (hI) ?_
  intro p e s m args below meth c A ls hA hname B E G hl
  have hx := B.1.1
  have hb := B.1.2.1
  have hinL : ∀ w ∈ wsJx4a65c0, w ∈ wsJx4a65c_add_72be8 := by decide +kernel
  have hl : lv_has ls 4 [(0, .ref (ad i)), (1, .ref (ad v)), (2, .ref ea), (3, .int (nI n))] := hl
  have cont : ∀ (q N9 : Nat) (g : Nat → Option Nat) (H : Heap) (locs : List Loc) (ls : Array Slot), n < N9 → N9 ≤ 60 → (∀ j, j < n → g j = f j) → xB p s m args meth c cJx4a65c_add_72be8 4 none wsJx4a65c_add_72be8 RJx4a65c D (sU (sU sh r (qRow cO N9 g)) i (lMk q)) (aU ad r q) A tys → xG D (sU (sU sh r (qRow cO N9 g)) i (lMk q)) (aU ad r q) A s.heap V H locs → lv_has ls 4 [(0, .ref (ad i)), (1, .ref (ad v)), (2, .ref q), (3, .int (nI n))] → W p l e ({ frames := 5, cells := 1, slots := 60, locals := 340 }) s m args below meth c H locs 1 60 (xQa below D sh ad tys s.heap.size A args s 1 60 (fun w sh' ad' V' => w = none ∧ lAdd sh ad cO V i r n (lEnd f n (some (ad v))) sh' ad' V')) (F0 m 11 ls []) := by
    intro q N9 g H locs ls g1 g2 g3 B G hl
    refine lv_aload_n hx hb dJx4a65c_add_72be8_11 rfl (lv_at hl 2 rfl) ?_
    refine lv_iload_n hx hb dJx4a65c_add_72be8_12 rfl (lv_at hl 3 rfl) ?_
    refine lv_aload_n hx hb dJx4a65c_add_72be8_13 rfl (lv_at hl 1 rfl) ?_
    refine x_stk (st' := [.ref (aU ad r q v), .int (nI n), .ref (aU ad r q r)]) (by rw [aU_n _ _ hvr, aU_s]) ?_
    refine x_aast B G (N := N) (fun j hj => by rw [sU_n _ _ (show j ≠ i from fun z => by rw [z] at hj; rw [hN i hj] at hs; cases hs), sU_n _ _ (show j ≠ r from fun z => hrN (by rw [← z]; exact hj))]; exact hN j hj) E.2.2.2.1 2 hT2 r v ((sU_n _ _ (Ne.symm hir)).trans (sU_s _ _ _)) ((sU_n _ _ hiv).trans ((sU_n _ _ hvr).trans hv)) n (by omega) (by omega) dJx4a65c_add_72be8_14 (fun H locs B G => ?_)
    rw [sU_mid (Ne.symm hir)] at B G
    refine lv_aload_n hx hb dJx4a65c_add_72be8_15 rfl (lv_at hl 0 rfl) ?_
    refine lv_iload_n hx hb dJx4a65c_add_72be8_16 rfl (lv_at hl 3 rfl) ?_
    refine lv_iconst (v := 1) hx hb dJx4a65c_add_72be8_17 (by decide) ?_
    refine lv_iadd hx hb dJx4a65c_add_72be8_18 ?_
    refine x_top (show (nI n) + 1 = nI (n + 1) from nI_add n 1) ?_
    refine x_stk (st' := [.int (nI (n + 1)), .ref (aU ad r q i)]) (by rw [aU_n _ _ hir]) ?_
    refine x_put B G i (sU_s _ _ _) (C := RJx4a65c) (T := TJx4a65c) (N := 3) rfl hinL tyJx4a65c tyJx4a65c_ok nmJx4a65c 2 (by omega) (by decide +kernel) (fun x h => h) rfl (by decide +kernel) rfl (Nat.le_of_ble_eq_true rfl) dJx4a65c_add_72be8_19 (fun H locs G => ?_)
    exact x_aendv hA B G (⟨rfl, q, N9, _, rfl, rfl, rfl, g1, g2, fun j hj => by
        by_cases e : j = n
        · subst e; rw [va_up_self, lEnd_at (Nat.lt_irrefl _), aU_n _ _ hvr]
        · rw [va_up_ne _ _ e, lEnd_lt (by omega)]; exact g3 j (by omega)⟩) (by show 1 ≤ 1; decide) (by show 60 ≤ 60; decide) dJx4a65c_add_72be8_22
  rcases hc with ⟨rfl, rfl⟩ | ⟨hn1, rfl, cap, hcap, hcap2, hr⟩
  · skip
    obtain ⟨fw, hT0⟩ := E.2.2.2.2.2
    refine lv_iload_n hx hb dJx4a65c_add_72be8_0 rfl (lv_at hl 3 rfl) ?_
    refine lv_aload_n hx hb dJx4a65c_add_72be8_1 rfl (lv_at hl 2 rfl) ?_
    refine va_tlen (v := 0) hx hb hT0 G.2 rfl dJx4a65c_add_72be8_2 ?_
    refine x_top (show (0 : Int32) = nI 0 from rfl) ?_
    refine lv_icmp_ne (tgt := 11) hx hb dJx4a65c_add_72be8_3 (by decide) (fun c_3 => ?_) (fun c_3 => ?_)
    · exact False.elim (c_3 rfl)
    · skip
      have c_3 : 0 = 0 := (nI_eq (a := 0) (b := 0) (by omega) (by omega)).mp c_3
      refine lv_aload_n hx hb dJx4a65c_add_72be8_6 rfl (lv_at hl 0 rfl) ?_
      refine x_callVa (rest := []) B E G (c_grow_e l hI hT2 h16 hN V i hi15 f hs hz) (cwV 0 B.1.2.2.2.2 gJx4a65c_add_72be8_Jx4a65c_grow_d5877 rfl rfl rfl (by decide +kernel) ⟨Nat.le_of_ble_eq_true rfl, Nat.le_of_ble_eq_true rfl⟩) (l_recv B G i hs) rfl hl.1 rfl (Nat.le_of_ble_eq_true rfl) ⟨Nat.le_of_ble_eq_true rfl, Nat.le_of_ble_eq_true rfl⟩ dJx4a65c_add_72be8_7 (fun v sh9 ad9 V9 H locs hR B G => ?_)
      obtain ⟨q9, N9, g, rfl, rfl, rfl, rfl, g1, g2, g3⟩ := hR
      refine W.eq (g2 := F0 m 10 ls [.ref q9]) rfl ?_
      obtain ⟨B, G⟩ := x_ren hi15 hr15 hir h15 B G (fun j hj => vU_n _ _ hj)
      refine lv_astore_n (lv' := [(2, .ref q9), (0, .ref (ad i)), (1, .ref (ad v)), (3, .int (nI 0))]) hx hb dJx4a65c_add_72be8_10 rfl hl (by decide) rfl (fun ls hl => ?_)
      have hl := lv_sub (l' := [(0, .ref (ad i)), (1, .ref (ad v)), (2, .ref q9), (3, .int (nI 0))]) hl [1, 2, 0, 3] rfl
      exact cont q9 N9 g H locs ls g1 g2 g3 B G hl
  · skip
    refine lv_iload_n hx hb dJx4a65c_add_72be8_0 rfl (lv_at hl 3 rfl) ?_
    refine lv_aload_n hx hb dJx4a65c_add_72be8_1 rfl (lv_at hl 2 rfl) ?_
    refine x_alen B G 2 hT2 r hr dJx4a65c_add_72be8_2 ?_
    refine lv_icmp_ne (tgt := 11) hx hb dJx4a65c_add_72be8_3 (by decide) (fun c_3 => ?_) (fun c_3 => ?_)
    · skip
      have c_3 : ¬ (n = cap) := fun h9 => c_3 ((nI_eq (a := n) (b := cap) (by omega) (by omega)).mpr h9)
      have hl := lv_sub (l' := [(0, .ref (ad i)), (1, .ref (ad v)), (2, .ref (ad r)), (3, .int (nI n))]) hl [0, 1, 2, 3] rfl
      obtain ⟨B, G⟩ := x_keepr (V2 := V) (N9 := cap) (g := f) hir hs (by rw [sU_id hr]; exact B) (by rw [sU_id hr]; exact G)
      exact W.widen (k := 1) (n := 60) (by decide) (by decide) (cont (ad r) cap f _ _ _ (by omega) hcap2 (fun _ _ => rfl) B G hl)
    · skip
      have c_3 : n = cap := (nI_eq (a := n) (b := cap) (by omega) (by omega)).mp c_3
      refine lv_aload_n hx hb dJx4a65c_add_72be8_6 rfl (lv_at hl 0 rfl) ?_
      have ec : n = cap := by omega
      subst ec
      refine x_callVa (rest := []) B E G (c_grow_n l hI hT2 h16 hN V i hi15 r n hr15 f hs hr hn1 hn40 (fun j hj y hy => by obtain ⟨k, fs, k1, k2, k3, k4, k5⟩ := hel j hj; exact ⟨k, fs, k1, k4, by rw [hy] at k5; exact (Option.some.inj k5).symm⟩) hz) (cwV 0 B.1.2.2.2.2 gJx4a65c_add_72be8_Jx4a65c_grow_d5877 rfl rfl rfl (by decide +kernel) ⟨Nat.le_of_ble_eq_true rfl, Nat.le_of_ble_eq_true rfl⟩) (l_recv B G i hs) rfl hl.1 rfl (Nat.le_of_ble_eq_true rfl) ⟨Nat.le_of_ble_eq_true rfl, Nat.le_of_ble_eq_true rfl⟩ dJx4a65c_add_72be8_7 (fun v sh9 ad9 V9 H locs hR B G => ?_)
      obtain ⟨q9, N9, g, rfl, rfl, rfl, rfl, g1, g2, g3⟩ := hR
      refine W.eq (g2 := F0 m 10 ls [.ref q9]) rfl ?_
      obtain ⟨B, G⟩ := x_ren hi15 hr15 hir h15 B G (fun j hj => vU_n _ _ hj)
      refine lv_astore_n (lv' := [(2, .ref q9), (0, .ref (ad i)), (1, .ref (ad v)), (3, .int (nI n))]) hx hb dJx4a65c_add_72be8_10 rfl hl (by decide) rfl (fun ls hl => ?_)
      have hl := lv_sub (l' := [(0, .ref (ad i)), (1, .ref (ad v)), (2, .ref q9), (3, .int (nI n))]) hl [1, 2, 0, 3] rfl
      exact cont q9 N9 g H locs ls g1 g2 g3 B G hl
set_option maxHeartbeats 400000 in
set_option maxRecDepth 100000 in
theorem c_Jx4a65c_add_9ea2d (l : Launch) {D : va_G} {tys : List (ClassId × FieldType)} {mi e0 : Nat} {sh : xS} {ad : Nat → Nat} (hI : xI sh ad) {cO : ClassId} (hT2 : tys[2]? = some (cO, .object "java/lang/Object")) {N : Nat} (h16 : 16 ≤ N) (hN : ∀ j, N ≤ j → sh j = none) (V : xV) (i r v n ea : Nat) (hi15 : i ≠ 15) (hr15 : r ≠ 15) (hv15 : v ≠ 15) (hir : i ≠ r) (hiv : v ≠ i) (hvr : v ≠ r) (h15 : sh 15 = none) (f : Nat → Option Nat) (hs : sh i = some (lMk ea)) (hz : V i 2 = nI n) (hn40 : n ≤ 40) (hc : (n = 0 ∧ ea = e0) ∨ (1 ≤ n ∧ ea = ad r ∧ ∃ cap, n ≤ cap ∧ cap ≤ 60 ∧ sh r = some (qRow cO cap f))) {fv : (Nat → Int32) → List Value} (hv : sh v = some (fun z => .inr (3, fv z))) (hel : ∀ j, j < n → ∃ (k : Nat) (fs : (Nat → Int32) → List Value), k ≠ 15 ∧ k ≠ i ∧ k ≠ r ∧ sh k = some (fun z => .inr (3, fs z)) ∧ f j = some (ad k)) (hrN : ¬ N ≤ r) : xMa l yJx4a65c_add_9ea2d wsJx4a65c_add_9ea2d { frames := 6, cells := 1, slots := 60, locals := 420 } D sh ad tys mi e0 V [.ref (ad i), .ref (ad v)] (fun w sh' ad' V' => w = some (.int 1) ∧ lAdd sh ad cO (xu V i 0 (V i 0 + 1)) i r n (lEnd f n (some (ad v))) sh' ad' V') := by
  refine xOfa (cc := cJx4a65c_add_9ea2d) (nL := 2) (ret := some .boolean) (own := RJx4a65c) (by decide) rfl rfl (Nat.le_of_ble_eq_true rfl) (hI) ?_
  intro p e s m args below meth c A ls hA hname B E G hl
  have hx := B.1.1
  have hb := B.1.2.1
  have hinL : ∀ w ∈ wsJx4a65c0, w ∈ wsJx4a65c_add_9ea2d := by decide +kernel
  have hl : lv_has ls 2 [(0, .ref (ad i)), (1, .ref (ad v))] := hl
  have hz1 : xu V i 0 (V i 0 + 1) i 2 = nI n := by rw [xu_row, if_neg (by decide)]; exact hz
  refine lv_aload_n hx hb dJx4a65c_add_9ea2d_0 rfl (lv_at hl 0 rfl) ?_
  refine lv_dup hx hb dJx4a65c_add_9ea2d_1 rfl ?_
  refine x_get B G i hs (C := RJx4a65c) (T := TJx4a65c) (N := 3) rfl hinL 0 (by omega) (by decide +kernel) (fun x h => u_same (B.1.2.2.2.2 (.sameField "java/util/ArrayList" "java/util/AbstractList" "modCount" "I") (by decide +kernel)) x h) rfl dJx4a65c_add_9ea2d_2 ?_
  refine lv_iconst (v := 1) hx hb dJx4a65c_add_9ea2d_5 (by decide) ?_
  refine lv_iadd hx hb dJx4a65c_add_9ea2d_6 ?_
  refine x_put B G i hs (C := RJx4a65c) (T := TJx4a65c) (N := 3) rfl hinL tyJx4a65c tyJx4a65c_ok nmJx4a65c 0 (by omega) (by decide +kernel) (fun x h => u_same (B.1.2.2.2.2 (.sameField "java/util/ArrayList" "java/util/AbstractList" "modCount" "I") (by decide +kernel)) x h) rfl (by decide +kernel) rfl (Nat.le_of_ble_eq_true rfl) dJx4a65c_add_9ea2d_7 (fun H locs G => ?_)
  refine lv_aload_n hx hb dJx4a65c_add_9ea2d_10 rfl (lv_at hl 0 rfl) ?_
  refine lv_aload_n hx hb dJx4a65c_add_9ea2d_11 rfl (lv_at hl 1 rfl) ?_
  refine lv_aload_n hx hb dJx4a65c_add_9ea2d_12 rfl (lv_at hl 0 rfl) ?_
  refine l_getA B G i hs hinL (by decide +kernel) dJx4a65c_add_9ea2d_13 ?_
  refine lv_aload_n hx hb dJx4a65c_add_9ea2d_16 rfl (lv_at hl 0 rfl) ?_
  refine l_getI B G i hs hinL (by decide +kernel) dJx4a65c_add_9ea2d_17 ?_
  refine x_top (show _ = nI n from hz1) ?_
  refine x_callVa (rest := []) B E G (c_Jx4a65c_add_72be8 l hI hT2 h16 hN (xu V i 0 (V i 0 + 1)) i r v n ea hi15 hr15 hv15 hir hiv hvr h15 f hs hz1 hn40 hc hv hel hrN) (cwV 3 B.1.2.2.2.2 gJx4a65c_add_9ea2d_Jx4a65c_add_72be8 rfl rfl rfl (by decide +kernel) ⟨Nat.le_of_ble_eq_true rfl, Nat.le_of_ble_eq_true rfl⟩) (l_recv B G i hs) rfl hl.1 rfl (Nat.le_of_ble_eq_true rfl) ⟨Nat.le_of_ble_eq_true rfl, Nat.le_of_ble_eq_true rfl⟩ dJx4a65c_add_9ea2d_20 (fun w sh9 ad9 V9 H locs hR B G => ?_)
  obtain ⟨rfl, hR⟩ := hR
  refine W.eq (g2 := F0 m 23 ls []) rfl ?_
  refine lv_iconst (v := 1) hx hb dJx4a65c_add_9ea2d_23 (by decide) ?_
  exact x_aendz (Or.inr rfl) hA B G (⟨rfl, hR⟩) (by show 1 ≤ 1; decide) (by show 60 ≤ 60; decide) dJx4a65c_add_9ea2d_24
def lIns (f : Nat → Option Nat) (p : Nat) (x : Option Nat) : Nat → Option Nat := fun j => if j < p then f j else if j = p then x else f (j - 1)
theorem lIns_at {f : Nat → Option Nat} {p j : Nat} {x : Option Nat} (h : j = p) : lIns f p x j = x := by
  unfold lIns
  rw [if_neg (by omega), if_pos h]
theorem lIns_cpy {f g : Nat → Option Nat} {p n j : Nat} {x : Option Nat} (h : ∀ j, j < n → g j = f j) (hp : p ≤ n) (hj : j ≤ n) (e : ¬ j = p) : va_cpy g g p (p + 1) (n - p) j = lIns f p x j := by
  unfold va_cpy lIns
  by_cases c : j < p
  · rw [if_neg (by omega), if_pos c]; exact h j (by omega)
  · rw [if_pos (by omega), if_neg c, if_neg e, h _ (by omega), show p + (j - (p + 1)) = j - 1 by omega]
theorem nI_subN {n p : Nat} (h : p ≤ n) : nI n - nI p = nI (n - p) := by
  have e : nI n = nI (n - p) + nI p := by rw [nI_add, Nat.sub_add_cancel h]
  rw [e, Int32.add_sub_cancel]
set_option maxHeartbeats 400000 in
set_option maxRecDepth 100000 in
theorem c_Jx4a65c_add_7a177 (l : Launch) {D : va_G} {tys : List (ClassId × FieldType)} {mi e0 : Nat} {sh : xS} {ad : Nat → Nat} (hI : xI sh ad) {cO : ClassId} (hT2 : tys[2]? = some (cO, .object "java/lang/Object")) {N : Nat} (h16 : 16 ≤ N) (hN : ∀ j, N ≤ j → sh j = none) (V : xV) (i r v n ea : Nat) (hi15 : i ≠ 15) (hr15 : r ≠ 15) (hv15 : v ≠ 15) (hir : i ≠ r) (hiv : v ≠ i) (hvr : v ≠ r) (h15 : sh 15 = none) (f : Nat → Option Nat) (hs : sh i = some (lMk ea)) (hz : V i 2 = nI n) (hn40 : n ≤ 40) (hc : (n = 0 ∧ ea = e0) ∨ (1 ≤ n ∧ ea = ad r ∧ ∃ cap, n ≤ cap ∧ cap ≤ 60 ∧ sh r = some (qRow cO cap f))) {fv : (Nat → Int32) → List Value} (hv : sh v = some (fun z => .inr (3, fv z))) (hel : ∀ j, j < n → ∃ (k : Nat) (fs : (Nat → Int32) → List Value), k ≠ 15 ∧ k ≠ i ∧ k ≠ r ∧ sh k = some (fun z => .inr (3, fs z)) ∧ f j = some (ad k)) (hrN : ¬ N ≤ r) (p1 : Nat) (hp : p1 ≤ n) : xMa l yJx4a65c_add_7a177 wsJx4a65c_add_7a177 { frames := 5, cells := 1, slots := 60, locals := 340 } D sh ad tys mi e0 V [.ref (ad i), .int (nI p1), .ref (ad v)] (fun w sh' ad' V' => w = none ∧ lAdd sh ad cO (xu V i 0 (V i 0 + 1)) i r n (lIns f p1 (some (ad v))) sh' ad' V') := by
  refine xOfa (cc := cJx4a65c_add_7a177) (nL := 5) (ret := none) (own := RJx4a65c) (by decide) rfl rfl (Nat.le_of_ble_eq_true rfl) (hI) ?_
  intro p e s m args below meth c A ls hA hname B E G hl
  have hx := B.1.1
  have hb := B.1.2.1
  have hinL : ∀ w ∈ wsJx4a65c0, w ∈ wsJx4a65c_add_7a177 := by decide +kernel
  have hl : lv_has ls 5 [(0, .ref (ad i)), (1, .int (nI p1)), (2, .ref (ad v))] := hl
  have hz1 : xu V i 0 (V i 0 + 1) i 2 = nI n := by rw [xu_row, if_neg (by decide)]; exact hz
  have cont : ∀ (q N9 : Nat) (g : Nat → Option Nat) (H : Heap) (locs : List Loc) (ls : Array Slot), n < N9 → N9 ≤ 60 → (∀ j, j < n → g j = f j) → xB p s m args meth c cJx4a65c_add_7a177 5 none wsJx4a65c_add_7a177 RJx4a65c D (sU (sU sh r (qRow cO N9 g)) i (lMk q)) (aU ad r q) A tys → xG D (sU (sU sh r (qRow cO N9 g)) i (lMk q)) (aU ad r q) A s.heap (xu V i 0 (V i 0 + 1)) H locs → lv_has ls 5 [(0, .ref (ad i)), (1, .int (nI p1)), (2, .ref (ad v)), (3, .int (nI n)), (4, .ref q)] → W p l e ({ frames := 5, cells := 1, slots := 60, locals := 340 }) s m args below meth c H locs 1 60 (xQa below D sh ad tys s.heap.size A args s 1 60 (fun w sh' ad' V' => w = none ∧ lAdd sh ad cO (xu V i 0 (V i 0 + 1)) i r n (lIns f p1 (some (ad v))) sh' ad' V')) (F0 m 38 ls []) := by
    intro q N9 g H locs ls g1 g2 g3 B G hl
    refine lv_aload hx hb dJx4a65c_add_7a177_38 (lv_at hl 4 rfl) ?_
    refine lv_iload_n hx hb dJx4a65c_add_7a177_40 rfl (lv_at hl 1 rfl) ?_
    refine lv_aload hx hb dJx4a65c_add_7a177_41 (lv_at hl 4 rfl) ?_
    refine lv_iload_n hx hb dJx4a65c_add_7a177_43 rfl (lv_at hl 1 rfl) ?_
    refine lv_iconst (v := 1) hx hb dJx4a65c_add_7a177_44 (by decide) ?_
    refine lv_iadd hx hb dJx4a65c_add_7a177_45 ?_
    refine x_top (show (nI p1) + 1 = nI (p1 + 1) from nI_add p1 1) ?_
    refine lv_iload_n hx hb dJx4a65c_add_7a177_46 rfl (lv_at hl 3 rfl) ?_
    refine lv_iload_n hx hb dJx4a65c_add_7a177_47 rfl (lv_at hl 1 rfl) ?_
    refine lv_isub hx hb dJx4a65c_add_7a177_48 ?_
    refine x_top (show (nI n) - (nI p1) = nI (n - p1) from (nI_subN hp)) ?_
    refine x_stk (st' := [.int (nI (n - p1)), .int (nI (p1 + 1)), .ref (aU ad r q r), .int (nI p1), .ref (aU ad r q r)]) (by rw [aU_s]) ?_
    refine x_copyq B G hl.1 (N := N) (fun j hj => by rw [sU_n _ _ (show j ≠ i from fun z => by rw [z] at hj; rw [hN i hj] at hs; cases hs), sU_n _ _ (show j ≠ r from fun z => hrN (by rw [← z]; exact hj))]; exact hN j hj) (by decide +kernel) (by decide +kernel) (by decide +kernel) (by decide +kernel) E.2.2.2.1 2 hT2 r r ((sU_n _ _ (Ne.symm hir)).trans (sU_s _ _ _)) ((sU_n _ _ (Ne.symm hir)).trans (sU_s _ _ _)) p1 (p1 + 1) (n - p1) (by omega) (by omega) (by omega) (by omega) (fun i9 hi9 y hy => by rw [g3 _ (by omega)] at hy; obtain ⟨k, fs, k1, k2, k3, k4, k5⟩ := hel _ (show p1 + i9 < n by omega); exact ⟨k, fs, (sU_n _ _ k2).trans ((sU_n _ _ k3).trans k4), by rw [aU_n _ _ k3]; rw [hy] at k5; exact (Option.some.inj k5).symm⟩) (by decide) (by decide) dJx4a65c_add_7a177_49 (fun H locs B G => ?_)
    rw [sU_mid (Ne.symm hir)] at B G
    refine lv_aload hx hb dJx4a65c_add_7a177_52 (lv_at hl 4 rfl) ?_
    refine lv_iload_n hx hb dJx4a65c_add_7a177_54 rfl (lv_at hl 1 rfl) ?_
    refine lv_aload_n hx hb dJx4a65c_add_7a177_55 rfl (lv_at hl 2 rfl) ?_
    refine x_stk (st' := [.ref (aU ad r q v), .int (nI p1), .ref (aU ad r q r)]) (by rw [aU_n _ _ hvr, aU_s]) ?_
    refine x_aast B G (N := N) (fun j hj => by rw [sU_n _ _ (show j ≠ i from fun z => by rw [z] at hj; rw [hN i hj] at hs; cases hs), sU_n _ _ (show j ≠ r from fun z => hrN (by rw [← z]; exact hj))]; exact hN j hj) E.2.2.2.1 2 hT2 r v ((sU_n _ _ (Ne.symm hir)).trans (sU_s _ _ _)) ((sU_n _ _ hiv).trans ((sU_n _ _ hvr).trans hv)) p1 (by omega) (by omega) dJx4a65c_add_7a177_56 (fun H locs B G => ?_)
    rw [sU_mid (Ne.symm hir)] at B G
    refine lv_aload_n hx hb dJx4a65c_add_7a177_57 rfl (lv_at hl 0 rfl) ?_
    refine lv_iload_n hx hb dJx4a65c_add_7a177_58 rfl (lv_at hl 3 rfl) ?_
    refine lv_iconst (v := 1) hx hb dJx4a65c_add_7a177_59 (by decide) ?_
    refine lv_iadd hx hb dJx4a65c_add_7a177_60 ?_
    refine x_top (show (nI n) + 1 = nI (n + 1) from nI_add n 1) ?_
    refine x_stk (st' := [.int (nI (n + 1)), .ref (aU ad r q i)]) (by rw [aU_n _ _ hir]) ?_
    refine x_put B G i (sU_s _ _ _) (C := RJx4a65c) (T := TJx4a65c) (N := 3) rfl hinL tyJx4a65c tyJx4a65c_ok nmJx4a65c 2 (by omega) (by decide +kernel) (fun x h => h) rfl (by decide +kernel) rfl (Nat.le_of_ble_eq_true rfl) dJx4a65c_add_7a177_61 (fun H locs G => ?_)
    exact x_aendv hA B G (⟨rfl, q, N9, _, rfl, rfl, rfl, g1, g2, fun j hj => by
        by_cases e : j = p1
        · subst e; rw [va_up_self, aU_n _ _ hvr]; exact (lIns_at rfl).symm
        · rw [va_up_ne _ _ e]; exact lIns_cpy g3 hp hj e⟩) (by show 1 ≤ 1; decide) (by show 60 ≤ 60; decide) dJx4a65c_add_7a177_64
  rcases hc with ⟨rfl, rfl⟩ | ⟨hn1, rfl, cap, hcap, hcap2, hr⟩
  · skip
    obtain ⟨fw, hT0⟩ := E.2.2.2.2.2
    refine lv_aload_n hx hb dJx4a65c_add_7a177_0 rfl (lv_at hl 0 rfl) ?_
    refine lv_iload_n hx hb dJx4a65c_add_7a177_1 rfl (lv_at hl 1 rfl) ?_
    refine x_callVv (rest := []) B G (c_Jx4a65c_rangeCheckForAdd_d00df l hI V i 0 p1 hs hz hp (by omega)) (cwV 1 B.1.2.2.2.2 gJx4a65c_add_7a177_Jx4a65c_rangeCheckForAdd_d00df rfl rfl rfl (by decide +kernel) ⟨Nat.le_of_ble_eq_true rfl, Nat.le_of_ble_eq_true rfl⟩) (l_recv B G i hs) rfl hl.1 rfl (Nat.le_of_ble_eq_true rfl) ⟨Nat.zero_le _, Nat.zero_le _⟩ dJx4a65c_add_7a177_2 (fun H locs G => ?_)
    refine lv_aload_n hx hb dJx4a65c_add_7a177_5 rfl (lv_at hl 0 rfl) ?_
    refine lv_dup hx hb dJx4a65c_add_7a177_6 rfl ?_
    refine x_get B G i hs (C := RJx4a65c) (T := TJx4a65c) (N := 3) rfl hinL 0 (by omega) (by decide +kernel) (fun x h => u_same (B.1.2.2.2.2 (.sameField "java/util/ArrayList" "java/util/AbstractList" "modCount" "I") (by decide +kernel)) x h) rfl dJx4a65c_add_7a177_7 ?_
    refine lv_iconst (v := 1) hx hb dJx4a65c_add_7a177_10 (by decide) ?_
    refine lv_iadd hx hb dJx4a65c_add_7a177_11 ?_
    refine x_put B G i hs (C := RJx4a65c) (T := TJx4a65c) (N := 3) rfl hinL tyJx4a65c tyJx4a65c_ok nmJx4a65c 0 (by omega) (by decide +kernel) (fun x h => u_same (B.1.2.2.2.2 (.sameField "java/util/ArrayList" "java/util/AbstractList" "modCount" "I") (by decide +kernel)) x h) rfl (by decide +kernel) rfl (Nat.le_of_ble_eq_true rfl) dJx4a65c_add_7a177_12 (fun H locs G => ?_)
    refine lv_aload_n hx hb dJx4a65c_add_7a177_15 rfl (lv_at hl 0 rfl) ?_
    refine l_getI B G i hs hinL (by decide +kernel) dJx4a65c_add_7a177_16 ?_
    refine x_top (show _ = nI 0 from hz1) ?_
    refine lv_dup hx hb dJx4a65c_add_7a177_19 rfl ?_
    refine lv_istore_n (lv' := [(3, .int (nI 0)), (0, .ref (ad i)), (1, .int (nI p1)), (2, .ref (ad v))]) hx hb dJx4a65c_add_7a177_20 rfl hl (by decide) rfl (fun ls hl => ?_)
    refine lv_aload_n hx hb dJx4a65c_add_7a177_21 rfl (lv_at hl 1 rfl) ?_
    refine l_getA B G i hs hinL (by decide +kernel) dJx4a65c_add_7a177_22 ?_
    refine lv_dup hx hb dJx4a65c_add_7a177_25 rfl ?_
    refine lv_astore (lv' := [(4, .ref ea), (3, .int (nI 0)), (0, .ref (ad i)), (1, .int (nI p1)), (2, .ref (ad v))]) hx hb dJx4a65c_add_7a177_26 hl (by decide) rfl (fun ls hl => ?_)
    refine va_tlen (v := 0) hx hb hT0 G.2 rfl dJx4a65c_add_7a177_28 ?_
    refine x_top (show (0 : Int32) = nI 0 from rfl) ?_
    refine lv_icmp_ne (tgt := 38) hx hb dJx4a65c_add_7a177_29 (by decide) (fun c_29 => ?_) (fun c_29 => ?_)
    · exact False.elim (c_29 rfl)
    · skip
      have c_29 : 0 = 0 := (nI_eq (a := 0) (b := 0) (by omega) (by omega)).mp c_29
      refine lv_aload_n hx hb dJx4a65c_add_7a177_32 rfl (lv_at hl 2 rfl) ?_
      refine x_callVa (rest := []) B E G (c_grow_e l hI hT2 h16 hN (xu V i 0 (V i 0 + 1)) i hi15 f hs hz1) (cwV 0 B.1.2.2.2.2 gJx4a65c_add_7a177_Jx4a65c_grow_d5877 rfl rfl rfl (by decide +kernel) ⟨Nat.le_of_ble_eq_true rfl, Nat.le_of_ble_eq_true rfl⟩) (l_recv B G i hs) rfl hl.1 rfl (Nat.le_of_ble_eq_true rfl) ⟨Nat.le_of_ble_eq_true rfl, Nat.le_of_ble_eq_true rfl⟩ dJx4a65c_add_7a177_33 (fun v sh9 ad9 V9 H locs hR B G => ?_)
      obtain ⟨q9, N9, g, rfl, rfl, rfl, rfl, g1, g2, g3⟩ := hR
      refine W.eq (g2 := F0 m 36 ls [.ref q9]) rfl ?_
      obtain ⟨B, G⟩ := x_ren hi15 hr15 hir h15 B G (fun j hj => vU_n _ _ hj)
      refine lv_astore (lv' := [(4, .ref q9), (3, .int (nI 0)), (0, .ref (ad i)), (1, .int (nI p1)), (2, .ref (ad v))]) hx hb dJx4a65c_add_7a177_36 hl (by decide) rfl (fun ls hl => ?_)
      have hl := lv_sub (l' := [(0, .ref (ad i)), (1, .int (nI p1)), (2, .ref (ad v)), (3, .int (nI 0)), (4, .ref q9)]) hl [2, 3, 4, 1, 0] rfl
      exact cont q9 N9 g H locs ls g1 g2 g3 B G hl
  · skip
    refine lv_aload_n hx hb dJx4a65c_add_7a177_0 rfl (lv_at hl 0 rfl) ?_
    refine lv_iload_n hx hb dJx4a65c_add_7a177_1 rfl (lv_at hl 1 rfl) ?_
    refine x_callVv (rest := []) B G (c_Jx4a65c_rangeCheckForAdd_d00df l hI V i n p1 hs hz hp (by omega)) (cwV 1 B.1.2.2.2.2 gJx4a65c_add_7a177_Jx4a65c_rangeCheckForAdd_d00df rfl rfl rfl (by decide +kernel) ⟨Nat.le_of_ble_eq_true rfl, Nat.le_of_ble_eq_true rfl⟩) (l_recv B G i hs) rfl hl.1 rfl (Nat.le_of_ble_eq_true rfl) ⟨Nat.zero_le _, Nat.zero_le _⟩ dJx4a65c_add_7a177_2 (fun H locs G => ?_)
    refine lv_aload_n hx hb dJx4a65c_add_7a177_5 rfl (lv_at hl 0 rfl) ?_
    refine lv_dup hx hb dJx4a65c_add_7a177_6 rfl ?_
    refine x_get B G i hs (C := RJx4a65c) (T := TJx4a65c) (N := 3) rfl hinL 0 (by omega) (by decide +kernel) (fun x h => u_same (B.1.2.2.2.2 (.sameField "java/util/ArrayList" "java/util/AbstractList" "modCount" "I") (by decide +kernel)) x h) rfl dJx4a65c_add_7a177_7 ?_
    refine lv_iconst (v := 1) hx hb dJx4a65c_add_7a177_10 (by decide) ?_
    refine lv_iadd hx hb dJx4a65c_add_7a177_11 ?_
    refine x_put B G i hs (C := RJx4a65c) (T := TJx4a65c) (N := 3) rfl hinL tyJx4a65c tyJx4a65c_ok nmJx4a65c 0 (by omega) (by decide +kernel) (fun x h => u_same (B.1.2.2.2.2 (.sameField "java/util/ArrayList" "java/util/AbstractList" "modCount" "I") (by decide +kernel)) x h) rfl (by decide +kernel) rfl (Nat.le_of_ble_eq_true rfl) dJx4a65c_add_7a177_12 (fun H locs G => ?_)
    refine lv_aload_n hx hb dJx4a65c_add_7a177_15 rfl (lv_at hl 0 rfl) ?_
    refine l_getI B G i hs hinL (by decide +kernel) dJx4a65c_add_7a177_16 ?_
    refine x_top (show _ = nI n from hz1) ?_
    refine lv_dup hx hb dJx4a65c_add_7a177_19 rfl ?_
    refine lv_istore_n (lv' := [(3, .int (nI n)), (0, .ref (ad i)), (1, .int (nI p1)), (2, .ref (ad v))]) hx hb dJx4a65c_add_7a177_20 rfl hl (by decide) rfl (fun ls hl => ?_)
    refine lv_aload_n hx hb dJx4a65c_add_7a177_21 rfl (lv_at hl 1 rfl) ?_
    refine l_getA B G i hs hinL (by decide +kernel) dJx4a65c_add_7a177_22 ?_
    refine lv_dup hx hb dJx4a65c_add_7a177_25 rfl ?_
    refine lv_astore (lv' := [(4, .ref (ad r)), (3, .int (nI n)), (0, .ref (ad i)), (1, .int (nI p1)), (2, .ref (ad v))]) hx hb dJx4a65c_add_7a177_26 hl (by decide) rfl (fun ls hl => ?_)
    refine x_alen B G 2 hT2 r hr dJx4a65c_add_7a177_28 ?_
    refine lv_icmp_ne (tgt := 38) hx hb dJx4a65c_add_7a177_29 (by decide) (fun c_29 => ?_) (fun c_29 => ?_)
    · skip
      have c_29 : ¬ (n = cap) := fun h9 => c_29 ((nI_eq (a := n) (b := cap) (by omega) (by omega)).mpr h9)
      have hl := lv_sub (l' := [(0, .ref (ad i)), (1, .int (nI p1)), (2, .ref (ad v)), (3, .int (nI n)), (4, .ref (ad r))]) hl [2, 3, 4, 1, 0] rfl
      obtain ⟨B, G⟩ := x_keepr (N9 := cap) (g := f) hir hs (by rw [sU_id hr]; exact B) (by rw [sU_id hr]; exact G)
      exact W.widen (k := 1) (n := 60) (by decide) (by decide) (cont (ad r) cap f _ _ _ (by omega) hcap2 (fun _ _ => rfl) B G hl)
    · skip
      have c_29 : n = cap := (nI_eq (a := n) (b := cap) (by omega) (by omega)).mp c_29
      refine lv_aload_n hx hb dJx4a65c_add_7a177_32 rfl (lv_at hl 2 rfl) ?_
      have ec : n = cap := by omega
      subst ec
      refine x_callVa (rest := []) B E G (c_grow_n l hI hT2 h16 hN (xu V i 0 (V i 0 + 1)) i hi15 r n hr15 f hs hr hn1 hn40 (fun j hj y hy => by obtain ⟨k, fs, k1, k2, k3, k4, k5⟩ := hel j hj; exact ⟨k, fs, k1, k4, by rw [hy] at k5; exact (Option.some.inj k5).symm⟩) hz1) (cwV 0 B.1.2.2.2.2 gJx4a65c_add_7a177_Jx4a65c_grow_d5877 rfl rfl rfl (by decide +kernel) ⟨Nat.le_of_ble_eq_true rfl, Nat.le_of_ble_eq_true rfl⟩) (l_recv B G i hs) rfl hl.1 rfl (Nat.le_of_ble_eq_true rfl) ⟨Nat.le_of_ble_eq_true rfl, Nat.le_of_ble_eq_true rfl⟩ dJx4a65c_add_7a177_33 (fun v sh9 ad9 V9 H locs hR B G => ?_)
      obtain ⟨q9, N9, g, rfl, rfl, rfl, rfl, g1, g2, g3⟩ := hR
      refine W.eq (g2 := F0 m 36 ls [.ref q9]) rfl ?_
      obtain ⟨B, G⟩ := x_ren hi15 hr15 hir h15 B G (fun j hj => vU_n _ _ hj)
      refine lv_astore (lv' := [(4, .ref q9), (3, .int (nI n)), (0, .ref (ad i)), (1, .int (nI p1)), (2, .ref (ad v))]) hx hb dJx4a65c_add_7a177_36 hl (by decide) rfl (fun ls hl => ?_)
      have hl := lv_sub (l' := [(0, .ref (ad i)), (1, .int (nI p1)), (2, .ref (ad v)), (3, .int (nI n)), (4, .ref q9)]) hl [2, 3, 4, 1, 0] rfl
      exact cont q9 N9 g H locs ls g1 g2 g3 B G hl
