/-- where a bundle b is put: in front of the first of the first k that it is before -/
def cPlc (V : xV) (od : Nat → Nat) (b : Nat) : Nat → Nat
  | 0 => 0
  | k + 1 => if cPlc V od b k = k ∧ ¬ bBef V b (20 + 4 * od k) = true then k + 1 else cPlc V od b k
theorem cPlc_le (V : xV) (od : Nat → Nat) (b k : Nat) : cPlc V od b k ≤ k := by
  induction k with
  | zero => exact Nat.le_refl _
  | succ k ih => unfold cPlc; split <;> omega
theorem cPlc_s {V : xV} {od : Nat → Nat} {b k : Nat} (h : cPlc V od b k = k) (h2 : ¬ bBef V b (20 + 4 * od k) = true) : cPlc V od b (k + 1) = k + 1 := if_pos ⟨h, h2⟩
theorem cPlc_stop {V : xV} {od : Nat → Nat} {b i : Nat} (h : cPlc V od b i = i) (h2 : bBef V b (20 + 4 * od i) = true) : ∀ k, i < k → cPlc V od b k = i := by
  intro k
  induction k with
  | zero => intro z; exact absurd z (Nat.not_lt_zero i)
  | succ k ih =>
    intro hk
    rcases Nat.lt_or_ge i k with c | c
    · unfold cPlc
      rw [if_neg (fun z => by have := ih c; omega), ih c]
    · have e : k = i := by omega
      subst e
      unfold cPlc
      rw [if_neg (fun z => z.2 h2), h]
set_option maxHeartbeats 4000000 in
set_option maxRecDepth 100000 in
theorem c_X2_placeInOrder (l : Launch) {D : va_G} {sh : xS} {ad : Nat → Nat} {cI cZ cO : ClassId} {tys : List (ClassId × FieldType)} {nb : Nat} {od : Nat → Nat} (DL : xDl sh ad cI cZ cO tys nb od) (V : xV) (h4 : V 4 2 = nI nb) (h5 : V 5 2 = nI nb) (b : Nat) (Bb : xBu sh ad cI cZ b) : xMi l yX2_placeInOrder wsX2_placeInOrder (rmK 3) D sh ad tys V [.ref (ad 0), .ref (ad b)] (nI (cPlc V od b nb)) V := by
  refine xOfi (cc := cX2_placeInOrder) (nL := 3) (ret := some .int) (own := RX2) (by decide) rfl rfl (Nat.le_of_ble_eq_true rfl) DL.2.2.2.2.2.2.1.2.2 ?_
  intro p e s m args below meth c A ls B G hl
  have hx := B.1.1
  have hb := B.1.2.1
  have hin0 : ∀ w ∈ wsX00, w ∈ wsX2_placeInOrder := by decide +kernel
  have hin2 : ∀ w ∈ wsX20, w ∈ wsX2_placeInOrder := by decide +kernel
  have hinL : ∀ w ∈ wsJx4a65c0, w ∈ wsX2_placeInOrder := by decide +kernel
  have hl : lv_has ls 3 [(0, .ref (ad 0)), (1, .ref (ad b))] := hl
  obtain ⟨Dl, Pl, L4, L5, Bs, od_lt, Cx, tO, hn40⟩ := id DL
  obtain ⟨a4, s4, -⟩ := id L4
  obtain ⟨a5, s5, -⟩ := id L5
  refine lv_iconst (v := 0) hx hb dX2_placeInOrder_0 (by decide) ?_
  refine lv_istore_n (lv' := [(2, .int 0), (0, .ref (ad 0)), (1, .ref (ad b))]) hx hb dX2_placeInOrder_1 rfl hl (by decide) rfl (fun ls hl => ?_)
  have loop_2 : ∀ (f i : Nat), i ≤ nb → nb < i + f → (cPlc V od b i = i) → ∀ (H : Heap) (locs : List Loc) (ls : Array Slot), xG D sh ad A s.heap V H locs → lv_has ls 3 [(0, .ref (ad 0)), (1, .ref (ad b)), (2, .int (nI i))] → W p l e (rmK 3) s m args below meth c H locs 0 0 (xQi below D sh ad tys A args s (nI (cPlc V od b nb)) V) (F0 m 2 ls []) := by
    intro f
    induction f with
    | zero => intro i h1 h2; exact absurd h2 (by omega)
    | succ f ih_2 =>
      intro i hi hf hpl H locs ls G hl
      refine lv_iload_n hx hb dX2_placeInOrder_2 rfl (lv_at hl 2 rfl) ?_
      refine lv_aload_n hx hb dX2_placeInOrder_3 rfl (lv_at hl 0 rfl) ?_
      refine d_getA B G Dl hin2 5 (by decide) (by decide +kernel) dX2_placeInOrder_4 ?_
      refine x_callVi (rest := [.int (nI i)]) B G (c_size l Cx.2.2 V 5 s5) (cwV 0 B.1.2.2.2.2 gX2_placeInOrder_Jx4a65c_size_8abf5 rfl rfl rfl (by decide +kernel) ⟨Nat.le_of_ble_eq_true rfl, Nat.le_of_ble_eq_true rfl⟩) (l_recv B G 5 s5) rfl hl.1 rfl (Nat.le_of_ble_eq_true rfl) ⟨Nat.zero_le _, Nat.zero_le _⟩ dX2_placeInOrder_7 (fun H locs G => ?_)
      refine x_top (show _ = nI nb from h5) ?_
      refine lv_icmp_ge (tgt := 37) hx hb dX2_placeInOrder_10 (by decide) (fun c_10 => ?_) (fun c_10 => ?_)
      · skip
        have c_10 : nb ≤ i := (nI_leI (a := nb) (b := i) (by omega) (by omega)).mp c_10
        refine lv_iload_n hx hb dX2_placeInOrder_37 rfl (lv_at hl 2 rfl) ?_
        exact x_iret B G (by rw [show i = nb by omega] at hpl ⊢; rw [hpl]) (rfl) dX2_placeInOrder_38
      · skip
        have c_10 : ¬ (nb ≤ i) := fun h9 => c_10 ((nI_leI (a := nb) (b := i) (by omega) (by omega)).mpr h9)
        refine lv_aload_n hx hb dX2_placeInOrder_13 rfl (lv_at hl 1 rfl) ?_
        refine lv_aload_n hx hb dX2_placeInOrder_14 rfl (lv_at hl 0 rfl) ?_
        refine d_getA B G Dl hin2 5 (by decide) (by decide +kernel) dX2_placeInOrder_15 ?_
        refine lv_iload_n hx hb dX2_placeInOrder_18 rfl (lv_at hl 2 rfl) ?_
        refine x_callVq (rest := [.ref (ad b)]) B G (c_get l tO Cx.2.2 V L5 i (by omega) (by omega) h5) (cwV 1 B.1.2.2.2.2 gX2_placeInOrder_Jx4a65c_get_915e3 rfl rfl rfl (by decide +kernel) ⟨Nat.le_of_ble_eq_true rfl, Nat.le_of_ble_eq_true rfl⟩) (l_recv B G 5 s5) rfl hl.1 rfl (Nat.le_of_ble_eq_true rfl) ⟨Nat.zero_le _, Nat.zero_le _⟩ dX2_placeInOrder_19 (fun H locs G => ?_)
        refine x_cast B G (20 + 4 * od i) (Bs (od i) (od_lt i (by omega))).1 (q := (RX0, TX0, 11)) rfl (by decide +kernel) dX2_placeInOrder_22 ?_
        refine x_callVi (rest := []) B G (c_X0_isBefore l Cx V b Bb (20 + 4 * od i) (Bs (od i) (od_lt i (by omega)))) (cwV 1 B.1.2.2.2.2 gX2_placeInOrder_X0_isBefore rfl rfl rfl (by decide +kernel) ⟨Nat.le_of_ble_eq_true rfl, Nat.le_of_ble_eq_true rfl⟩) (b_recv B G Bb) rfl hl.1 rfl (Nat.le_of_ble_eq_true rfl) ⟨Nat.zero_le _, Nat.zero_le _⟩ dX2_placeInOrder_25 (fun H locs G => ?_)
        refine lv_if_ne (tgt := 37) hx hb dX2_placeInOrder_28 (by decide) (fun c_28 => ?_) (fun c_28 => ?_)
        · skip
          refine lv_iload_n hx hb dX2_placeInOrder_37 rfl (lv_at hl 2 rfl) ?_
          exact x_iret B G (by rw [cPlc_stop hpl (b2i_1 c_28) nb (by omega)]) (rfl) dX2_placeInOrder_38
        · skip
          refine lv_iinc (v := nI (i + 1)) (lv' := [(2, .int (nI (i + 1))), (0, .ref (ad 0)), (1, .ref (ad b))]) hx hb dX2_placeInOrder_31 hl (k := 2) rfl (nI_add i 1) (by decide) rfl (fun ls hl => ?_)
          refine lv_goto (tgt := 2) hx hb dX2_placeInOrder_34 (by decide) ?_
          have hl := lv_sub (l' := [(0, .ref (ad 0)), (1, .ref (ad b)), (2, .int (nI (i + 1)))]) hl [1, 2, 0] rfl
          exact ih_2 (i + 1) (by omega) (by omega) (cPlc_s hpl (b2i_0.mp c_28)) _ _ _ G hl
  have hl := lv_sub (l' := [(0, .ref (ad 0)), (1, .ref (ad b)), (2, .int 0)]) hl [1, 2, 0] rfl
  have hl := lv_cast hl (congrArg (fun z : Int32 => ([(0, .ref (ad 0)), (1, .ref (ad b)), (2, .int z)] : List (Nat × Value))) (show 0 = (nI 0) from rfl))
  exact loop_2 (nb + 1) 0 (by omega) (by omega) rfl _ _ _ G hl
/-! THE CLASS'S WORLD WITH ITS LISTS' STATES -/
def lSt (sh : xS) (ad : Nat → Nat) (cO : ClassId) (e0 i r n : Nat) (el : Nat → Nat) : Prop :=
  ∃ (ea : Nat) (f : Nat → Option Nat), sh i = some (lMk ea) ∧ ((n = 0 ∧ ea = e0) ∨ (1 ≤ n ∧ ea = ad r ∧ ∃ cap, n ≤ cap ∧ cap ≤ 60 ∧ sh r = some (qRow cO cap f))) ∧ ∀ j, j < n → f j = some (ad (el j))
theorem lSt.li {sh : xS} {ad : Nat → Nat} {cO : ClassId} {e0 i r n : Nat} {el : Nat → Nat} (h : lSt sh ad cO e0 i r n el) : xLi sh ad cO i r n el := by
  obtain ⟨ea, f, h1, h2, h3⟩ := h
  refine ⟨ea, h1, fun hn => ?_⟩
  rcases h2 with ⟨h4, -⟩ | ⟨-, h5, cap, h6, h7, h8⟩
  · exact absurd h4 hn
  · exact ⟨h5, cap, f, h6, by omega, h8, h3⟩
def xDw (sh : xS) (ad : Nat → Nat) (cI cZ cO : ClassId) (tys : List (ClassId × FieldType)) (e0 nb : Nat) (od : Nat → Nat) : Prop :=
  xDo sh ad cI ∧ xPl sh ad cI cZ ∧ lSt sh ad cO e0 4 7 nb (fun k => 20 + 4 * k) ∧ lSt sh ad cO e0 5 8 nb (fun k => 20 + 4 * od k) ∧ (∀ k, k < nb → xBu sh ad cI cZ (20 + 4 * k)) ∧ (∀ k, k < nb → od k < nb) ∧ xCx sh ad cI cZ tys ∧ tys[2]? = some (cO, .object "java/lang/Object") ∧ nb ≤ 40 ∧ sh 15 = none ∧ ∀ i, 20 + 4 * nb ≤ i → sh i = none
theorem xDw.dl {sh : xS} {ad : Nat → Nat} {cI cZ cO : ClassId} {tys : List (ClassId × FieldType)} {e0 nb : Nat} {od : Nat → Nat} (h : xDw sh ad cI cZ cO tys e0 nb od) : xDl sh ad cI cZ cO tys nb od := by
  obtain ⟨h1, h2, h3, h4, h5, h6, h7, h8, h9, -⟩ := h
  exact ⟨h1, h2, h3.li, h4.li, h5, h6, h7, h8, h9⟩
section Tr
variable {sh sh' : xS} {ad ad' : Nat → Nat} {cI cZ cO : ClassId} {e0 : Nat}
theorem xDo.tr (h : xDo sh ad cI) (hs : ∀ j, j < 4 → sh' j = sh j) (ha : ∀ j, j < 7 → ad' j = ad j) : xDo sh' ad' cI := by
  obtain ⟨h0, h1, h2, h3⟩ := h
  refine ⟨?_, by rw [hs 1 (by omega)]; exact h1, by rw [hs 2 (by omega)]; exact h2, by rw [hs 3 (by omega)]; exact h3⟩
  rw [hs 0 (by omega), h0]
  unfold dFs
  rw [ha 1 (by omega), ha 2 (by omega), ha 3 (by omega), ha 4 (by omega), ha 5 (by omega), ha 6 (by omega)]
theorem xPl.tr (h : xPl sh ad cI cZ) (hs : ∀ j, j = 6 ∨ (9 ≤ j ∧ j < 15) → sh' j = sh j) (ha : ∀ j, 9 ≤ j ∧ j < 15 → ad' j = ad j) : xPl sh' ad' cI cZ := by
  obtain ⟨h0, h1, h2, h3, h4, h5, h6⟩ := h
  refine ⟨?_, by rw [hs 9 (by omega)]; exact h1, by rw [hs 10 (by omega)]; exact h2, by rw [hs 11 (by omega)]; exact h3, by rw [hs 12 (by omega)]; exact h4, by rw [hs 13 (by omega)]; exact h5, by rw [hs 14 (by omega)]; exact h6⟩
  rw [hs 6 (by omega), h0]
  unfold pFs
  rw [ha 9 (by omega), ha 10 (by omega), ha 11 (by omega), ha 12 (by omega), ha 13 (by omega), ha 14 (by omega)]
theorem xBu.tr {b b' : Nat} (h : xBu sh ad cI cZ b) (h0 : sh' b' = sh b) (h1 : sh' (b' + 1) = sh (b + 1)) (h2 : sh' (b' + 2) = sh (b + 2)) (h3 : sh' (b' + 3) = sh (b + 3)) (a1 : ad' (b' + 1) = ad (b + 1)) (a2 : ad' (b' + 2) = ad (b + 2)) (a3 : ad' (b' + 3) = ad (b + 3)) : xBu sh' ad' cI cZ b' := by
  obtain ⟨g0, g1, g2, g3⟩ := h
  refine ⟨?_, h1.trans g1, h2.trans g2, h3.trans g3⟩
  rw [h0, g0]
  unfold bFs
  rw [a1, a2, a3]
theorem lSt.tr {i r n : Nat} {el : Nat → Nat} (h : lSt sh ad cO e0 i r n el) (hi : sh' i = sh i) (hr : sh' r = sh r) (har : ad' r = ad r) (hel : ∀ j, j < n → ad' (el j) = ad (el j)) : lSt sh' ad' cO e0 i r n el := by
  obtain ⟨ea, f, h1, h2, h3⟩ := h
  refine ⟨ea, f, hi.trans h1, ?_, fun j hj => by rw [hel j hj]; exact h3 j hj⟩
  rcases h2 with h4 | ⟨h4, h5, cap, h6, h7, h8⟩
  · exact Or.inl h4
  · exact Or.inr ⟨h4, by rw [har]; exact h5, cap, h6, h7, hr.trans h8⟩
/-- a list that has got a thing -/
theorem lAdd.st {V V' : xV} {i r n : Nat} {el : Nat → Option Nat} {el2 : Nat → Nat} (h : lAdd sh ad cO V i r n el sh' ad' V') (hir : i ≠ r) (he : ∀ j, j ≤ n → el j = some (ad (el2 j))) (hne : ∀ j, j ≤ n → el2 j ≠ r) : lSt sh' ad' cO e0 i r (n + 1) el2 := by
  obtain ⟨q, N9, g, rfl, rfl, -, h2, h3, h4⟩ := h
  refine ⟨q, g, sU_s _ _ _, Or.inr ⟨by omega, (aU_s _ _ _).symm, N9, h2, h3, ?_⟩, fun j hj => ?_⟩
  · rw [sU_n _ _ (Ne.symm hir), sU_s]
  · rw [h4 j (by omega), he j (by omega), aU_n _ _ (hne j (by omega))]
theorem lAdd.shq {V V' : xV} {i r n : Nat} {el : Nat → Option Nat} (h : lAdd sh ad cO V i r n el sh' ad' V') {j : Nat} (h1 : j ≠ i) (h2 : j ≠ r) : sh' j = sh j := by
  obtain ⟨q, N9, g, rfl, -⟩ := h
  rw [sU_n _ _ h1, sU_n _ _ h2]
theorem lAdd.adq {V V' : xV} {i r n : Nat} {el : Nat → Option Nat} (h : lAdd sh ad cO V i r n el sh' ad' V') {j : Nat} (h2 : j ≠ r) : ad' j = ad j := by
  obtain ⟨q, N9, g, -, rfl, -⟩ := h
  exact aU_n _ _ h2
theorem lAdd.Vq {V V' : xV} {i r n : Nat} {el : Nat → Option Nat} (h : lAdd sh ad cO V i r n el sh' ad' V') : V' = xu V i 2 (nI (n + 1)) := by
  obtain ⟨q, N9, g, -, -, h, -⟩ := h
  exact h
end Tr
/-- a made bundle joins as number nb -/
def mK {α : Type} (b : Nat) (x y : Nat → α) : Nat → α := fun j => if b ≤ j then x (j - b) else y j
theorem mK_lo {α : Type} {b j : Nat} {x y : Nat → α} (h : j < b) : mK b x y j = y j := if_neg (by omega)
theorem mK_hi {α : Type} {b : Nat} {x y : Nat → α} (k : Nat) : mK b x y (b + k) = x k := by unfold mK; rw [if_pos (Nat.le_add_right b k), Nat.add_sub_cancel_left]
theorem x_joinB {p : Program} {s : State} {m : MethodId} {args : Array Value} {meth : Method} {c : Code} {H : Heap} {locs : List Loc} {cc : ByteArray} {nL : Nat} {ret : Option FieldType} {Ts : List Cond} {own : String} {D : va_G} {sh sh' : xS} {ad ad' : Nat → Nat} {A : Nat → Prop} {tys : List (ClassId × FieldType)} {V V' : xV}
    (B : xB p s m args meth c cc nL ret Ts own D sh ad A tys) (G : xG D sh ad A s.heap V H locs) (hI' : xI sh' ad') (W' : xW D sh' ad' V' H) (hap : xApart sh ad sh' ad') (hA : ∀ (i : Nat) (mk : (Nat → Int32) → va_E), sh' i = some mk → A (ad' i)) (b : Nat) :
    xB p s m args meth c cc nL ret Ts own D (mK b sh' sh) (mK b ad' ad) A tys ∧ xG D (mK b sh' sh) (mK b ad' ad) A s.heap (mK b V' V) H locs := by
  obtain ⟨b1, b2, b3, b4, b5, b6, b7⟩ := B
  refine ⟨⟨b1, b2, b3, b4, fun i j mi mj hi hj hij => ?_, fun i mk hi => ?_, b7⟩, G.join W' (fun i mk hi => ?_)⟩
  · unfold mK at hi hj hij
    by_cases ei : b ≤ i
    · rw [if_pos ei] at hi hij
      by_cases ej : b ≤ j
      · rw [if_pos ej] at hj hij
        have := hI' _ _ _ _ hi hj hij
        omega
      · rw [if_neg ej] at hj hij
        exact absurd hij.symm (hap _ _ _ _ hj hi)
    · rw [if_neg ei] at hi hij
      by_cases ej : b ≤ j
      · rw [if_pos ej] at hj hij
        exact absurd hij (hap _ _ _ _ hi hj)
      · rw [if_neg ej] at hj hij
        exact b5 _ _ _ _ hi hj hij
  · unfold mK at hi ⊢
    by_cases ei : b ≤ i
    · rw [if_pos ei] at hi ⊢; exact hA _ mk hi
    · rw [if_neg ei] at hi ⊢; exact b6 i mk hi
  · by_cases ei : b ≤ i
    · refine Or.inr ⟨i - b, mk, ?_, ?_, ?_⟩
      · unfold mK at hi; rw [if_pos ei] at hi; exact hi
      · unfold mK; rw [if_pos ei]
      · unfold mK; rw [if_pos ei]
    · refine Or.inl ⟨i, mk, ?_, (mK_lo (by omega)).symm, by rw [mK_lo (by omega)]⟩
      unfold mK at hi; rw [if_neg ei] at hi; exact hi
