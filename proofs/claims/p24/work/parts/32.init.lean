def bRaw : (Nat → Int32) → va_E := (fun f => .inr (3, [.int (f 0), .int (f 1), .int (f 2), .int (f 3), .null, .null, .null, .int (f 7), .int (f 8), .int (f 9), .int (f 10)]))
set_option maxHeartbeats 4000000 in
set_option maxRecDepth 100000 in
theorem c_X0_init (l : Launch) {D : va_G} {tys : List (ClassId × FieldType)} {mi e0 : Nat} {cI cZ : ClassId} (hT0 : tys[0]? = some (cI, .int)) (hT1 : tys[1]? = some (cZ, .boolean)) (q : Nat) (k d pr t : Int32) : xMa l yX0_init wsX0_init { frames := 1, cells := 3, slots := 24, locals := 60 } D (sU sN 0 bRaw) (fun _ => q) tys mi e0 (fun _ _ => 0) [.ref q, .int k, .int d, .int pr, .int t] (fun v sh' ad' V' => v = none ∧ xBu sh' ad' cI cZ 0 ∧ ad' 0 = q ∧ (∀ i, 4 ≤ i → sh' i = none) ∧ V' 0 = upd (upd (upd (upd (upd (upd (upd (upd (fun _ => 0) 0 k) 1 d) 2 pr) 3 t) 7 (-1)) 8 (-1)) 9 0) 10 (-1) ∧ V' 1 = (fun _ => 0) ∧ V' 2 = (fun _ => 0) ∧ V' 3 = (fun _ => 0)) := by
  refine xOfa (cc := cX0_init) (nL := 5) (ret := none) (own := RX0) (by decide) rfl rfl (Nat.le_of_ble_eq_true rfl) (sU_I _ _ _) ?_
  intro p e s m args below meth c A ls hA hname B E G hl
  have hx := B.1.1
  have hb := B.1.2.1
  have hin0 : ∀ w ∈ wsX00, w ∈ wsX0_init := by decide +kernel
  have hl : lv_has ls 5 [(0, .ref q), (1, .int k), (2, .int d), (3, .int pr), (4, .int t)] := hl
  refine lv_aload_n hx hb dX0_init_0 rfl (lv_at hl 0 rfl) ?_
  refine W.objInit hx hb B.1.2.2.2.1 (B.1.2.2.2.2 (.methodLink RX0 3 objectInit) (by decide +kernel)) (B.1.2.2.2.2 (.instanceMethod objectInit) (by decide +kernel)) (B.1.2.2.2.2 (.code objectInit ⟨#[0xb1]⟩ 1 none) (by decide +kernel)) rfl (by rw [B.1.2.2.1]; exact hl.1) rfl dX0_init_1 (Nat.le_of_ble_eq_true rfl) (Nat.le_of_ble_eq_true rfl) ?_
  refine W.eq (g2 := F0 m 4 ls []) rfl ?_
  refine lv_aload_n hx hb dX0_init_4 rfl (lv_at hl 0 rfl) ?_
  refine lv_iload_n hx hb dX0_init_5 rfl (lv_at hl 1 rfl) ?_
  refine x_putR B G 0 (C := RX0) (T := TX0) (N := 11) (ci := 3) (fs := (fun f => [.int (f 0), .int (f 1), .int (f 2), .int (f 3), .null, .null, .null, .int (f 7), .int (f 8), .int (f 9), .int (f 10)])) (fs' := (fun f => [.int (f 0), .int (f 1), .int (f 2), .int (f 3), .null, .null, .null, .int (f 7), .int (f 8), .int (f 9), .int (f 10)])) (rfl) rfl hin0 tyX0 tyX0_ok nmX0 0 (by omega) (by decide +kernel) (fun x h => h) (Or.inr ⟨rfl, hname, rfl⟩) (ty := .int) (by decide +kernel) rfl rfl (V' := xu (fun _ _ => 0) 0 0 k) (fun j h => xu_ne _ _ _ h) rfl (Nat.le_of_ble_eq_true rfl) dX0_init_6 (fun H locs B G => ?_)
  refine lv_aload_n hx hb dX0_init_9 rfl (lv_at hl 0 rfl) ?_
  refine lv_iload_n hx hb dX0_init_10 rfl (lv_at hl 2 rfl) ?_
  refine x_putR B G 0 (C := RX0) (T := TX0) (N := 11) (ci := 3) (fs := (fun f => [.int (f 0), .int (f 1), .int (f 2), .int (f 3), .null, .null, .null, .int (f 7), .int (f 8), .int (f 9), .int (f 10)])) (fs' := (fun f => [.int (f 0), .int (f 1), .int (f 2), .int (f 3), .null, .null, .null, .int (f 7), .int (f 8), .int (f 9), .int (f 10)])) (rfl) rfl hin0 tyX0 tyX0_ok nmX0 1 (by omega) (by decide +kernel) (fun x h => h) (Or.inr ⟨rfl, hname, rfl⟩) (ty := .int) (by decide +kernel) rfl rfl (V' := xu (xu (fun _ _ => 0) 0 0 k) 0 1 d) (fun j h => xu_ne _ _ _ h) rfl (Nat.le_of_ble_eq_true rfl) dX0_init_11 (fun H locs B G => ?_)
  refine lv_aload_n hx hb dX0_init_14 rfl (lv_at hl 0 rfl) ?_
  refine lv_iload_n hx hb dX0_init_15 rfl (lv_at hl 3 rfl) ?_
  refine x_putR B G 0 (C := RX0) (T := TX0) (N := 11) (ci := 3) (fs := (fun f => [.int (f 0), .int (f 1), .int (f 2), .int (f 3), .null, .null, .null, .int (f 7), .int (f 8), .int (f 9), .int (f 10)])) (fs' := (fun f => [.int (f 0), .int (f 1), .int (f 2), .int (f 3), .null, .null, .null, .int (f 7), .int (f 8), .int (f 9), .int (f 10)])) (rfl) rfl hin0 tyX0 tyX0_ok nmX0 2 (by omega) (by decide +kernel) (fun x h => h) (Or.inr ⟨rfl, hname, rfl⟩) (ty := .int) (by decide +kernel) rfl rfl (V' := xu (xu (xu (fun _ _ => 0) 0 0 k) 0 1 d) 0 2 pr) (fun j h => xu_ne _ _ _ h) rfl (Nat.le_of_ble_eq_true rfl) dX0_init_16 (fun H locs B G => ?_)
  refine lv_aload_n hx hb dX0_init_19 rfl (lv_at hl 0 rfl) ?_
  refine lv_iload hx hb dX0_init_20 (lv_at hl 4 rfl) ?_
  refine x_putR B G 0 (C := RX0) (T := TX0) (N := 11) (ci := 3) (fs := (fun f => [.int (f 0), .int (f 1), .int (f 2), .int (f 3), .null, .null, .null, .int (f 7), .int (f 8), .int (f 9), .int (f 10)])) (fs' := (fun f => [.int (f 0), .int (f 1), .int (f 2), .int (f 3), .null, .null, .null, .int (f 7), .int (f 8), .int (f 9), .int (f 10)])) (rfl) rfl hin0 tyX0 tyX0_ok nmX0 3 (by omega) (by decide +kernel) (fun x h => h) (Or.inr ⟨rfl, hname, rfl⟩) (ty := .int) (by decide +kernel) rfl rfl (V' := xu (xu (xu (xu (fun _ _ => 0) 0 0 k) 0 1 d) 0 2 pr) 0 3 t) (fun j h => xu_ne _ _ _ h) rfl (Nat.le_of_ble_eq_true rfl) dX0_init_22 (fun H locs B G => ?_)
  refine lv_aload_n hx hb dX0_init_25 rfl (lv_at hl 0 rfl) ?_
  refine lv_bipush (v := 8) hx hb dX0_init_26 (by decide) ?_
  refine x_newa B G 1 .int (atype := .int) rfl rfl (by decide +kernel) 0 hT0 (fun _ _ h => h) (N := 8) (by decide) rfl (by decide) (by show 1 ≤ 3; decide) (Nat.le_of_ble_eq_true rfl) dX0_init_28 (fun q28 H B G => ?_)
  refine x_putR B G 0 (C := RX0) (T := TX0) (N := 11) (ci := 3) (fs := (fun f => [.int (f 0), .int (f 1), .int (f 2), .int (f 3), .null, .null, .null, .int (f 7), .int (f 8), .int (f 9), .int (f 10)])) (fs' := (fun f => [.int (f 0), .int (f 1), .int (f 2), .int (f 3), .ref q28, .null, .null, .int (f 7), .int (f 8), .int (f 9), .int (f 10)])) (rfl) rfl hin0 tyX0 tyX0_ok nmX0 4 (by omega) (by decide +kernel) (fun x h => h) (Or.inr ⟨rfl, hname, rfl⟩) (ty := (.array .int)) (by decide +kernel) rfl rfl (V' := vU (xu (xu (xu (xu (fun _ _ => 0) 0 0 k) 0 1 d) 0 2 pr) 0 3 t) 1 (fun _ => 0)) (fun _ _ => rfl) rfl (Nat.le_of_ble_eq_true rfl) dX0_init_30 (fun H locs B G => ?_)
  refine lv_aload_n hx hb dX0_init_33 rfl (lv_at hl 0 rfl) ?_
  refine lv_bipush (v := 8) hx hb dX0_init_34 (by decide) ?_
  refine x_newa B G 2 .int (atype := .int) rfl rfl (by decide +kernel) 0 hT0 (fun _ _ h => h) (N := 8) (by decide) rfl (by decide) (by show 2 ≤ 3; decide) (Nat.le_of_ble_eq_true rfl) dX0_init_36 (fun q36 H B G => ?_)
  refine x_putR B G 0 (C := RX0) (T := TX0) (N := 11) (ci := 3) (fs := (fun f => [.int (f 0), .int (f 1), .int (f 2), .int (f 3), .ref q28, .null, .null, .int (f 7), .int (f 8), .int (f 9), .int (f 10)])) (fs' := (fun f => [.int (f 0), .int (f 1), .int (f 2), .int (f 3), .ref q28, .ref q36, .null, .int (f 7), .int (f 8), .int (f 9), .int (f 10)])) (rfl) rfl hin0 tyX0 tyX0_ok nmX0 5 (by omega) (by decide +kernel) (fun x h => h) (Or.inr ⟨rfl, hname, rfl⟩) (ty := (.array .int)) (by decide +kernel) rfl rfl (V' := vU (vU (xu (xu (xu (xu (fun _ _ => 0) 0 0 k) 0 1 d) 0 2 pr) 0 3 t) 1 (fun _ => 0)) 2 (fun _ => 0)) (fun _ _ => rfl) rfl (Nat.le_of_ble_eq_true rfl) dX0_init_38 (fun H locs B G => ?_)
  refine lv_aload_n hx hb dX0_init_41 rfl (lv_at hl 0 rfl) ?_
  refine lv_bipush (v := 8) hx hb dX0_init_42 (by decide) ?_
  refine x_newa B G 3 .boolean (atype := .boolean) rfl rfl (by decide +kernel) 1 hT1 (fun _ _ h => h) (N := 8) (by decide) rfl (by decide) (by show 3 ≤ 3; decide) (Nat.le_of_ble_eq_true rfl) dX0_init_44 (fun q44 H B G => ?_)
  refine x_putR B G 0 (C := RX0) (T := TX0) (N := 11) (ci := 3) (fs := (fun f => [.int (f 0), .int (f 1), .int (f 2), .int (f 3), .ref q28, .ref q36, .null, .int (f 7), .int (f 8), .int (f 9), .int (f 10)])) (fs' := (fun f => [.int (f 0), .int (f 1), .int (f 2), .int (f 3), .ref q28, .ref q36, .ref q44, .int (f 7), .int (f 8), .int (f 9), .int (f 10)])) (rfl) rfl hin0 tyX0 tyX0_ok nmX0 6 (by omega) (by decide +kernel) (fun x h => h) (Or.inr ⟨rfl, hname, rfl⟩) (ty := (.array .boolean)) (by decide +kernel) rfl rfl (V' := vU (vU (vU (xu (xu (xu (xu (fun _ _ => 0) 0 0 k) 0 1 d) 0 2 pr) 0 3 t) 1 (fun _ => 0)) 2 (fun _ => 0)) 3 (fun _ => 0)) (fun _ _ => rfl) rfl (Nat.le_of_ble_eq_true rfl) dX0_init_46 (fun H locs B G => ?_)
  refine lv_aload_n hx hb dX0_init_49 rfl (lv_at hl 0 rfl) ?_
  refine lv_iconst (v := (-1)) hx hb dX0_init_50 (by decide) ?_
  refine x_putR B G 0 (C := RX0) (T := TX0) (N := 11) (ci := 3) (fs := (fun f => [.int (f 0), .int (f 1), .int (f 2), .int (f 3), .ref q28, .ref q36, .ref q44, .int (f 7), .int (f 8), .int (f 9), .int (f 10)])) (fs' := (fun f => [.int (f 0), .int (f 1), .int (f 2), .int (f 3), .ref q28, .ref q36, .ref q44, .int (f 7), .int (f 8), .int (f 9), .int (f 10)])) (rfl) rfl hin0 tyX0 tyX0_ok nmX0 7 (by omega) (by decide +kernel) (fun x h => h) (Or.inl rfl) (ty := .int) (by decide +kernel) rfl rfl (V' := xu (vU (vU (vU (xu (xu (xu (xu (fun _ _ => 0) 0 0 k) 0 1 d) 0 2 pr) 0 3 t) 1 (fun _ => 0)) 2 (fun _ => 0)) 3 (fun _ => 0)) 0 7 (-1)) (fun j h => xu_ne _ _ _ h) rfl (Nat.le_of_ble_eq_true rfl) dX0_init_51 (fun H locs B G => ?_)
  refine lv_aload_n hx hb dX0_init_54 rfl (lv_at hl 0 rfl) ?_
  refine lv_iconst (v := (-1)) hx hb dX0_init_55 (by decide) ?_
  refine x_putR B G 0 (C := RX0) (T := TX0) (N := 11) (ci := 3) (fs := (fun f => [.int (f 0), .int (f 1), .int (f 2), .int (f 3), .ref q28, .ref q36, .ref q44, .int (f 7), .int (f 8), .int (f 9), .int (f 10)])) (fs' := (fun f => [.int (f 0), .int (f 1), .int (f 2), .int (f 3), .ref q28, .ref q36, .ref q44, .int (f 7), .int (f 8), .int (f 9), .int (f 10)])) (rfl) rfl hin0 tyX0 tyX0_ok nmX0 8 (by omega) (by decide +kernel) (fun x h => h) (Or.inl rfl) (ty := .int) (by decide +kernel) rfl rfl (V' := xu (xu (vU (vU (vU (xu (xu (xu (xu (fun _ _ => 0) 0 0 k) 0 1 d) 0 2 pr) 0 3 t) 1 (fun _ => 0)) 2 (fun _ => 0)) 3 (fun _ => 0)) 0 7 (-1)) 0 8 (-1)) (fun j h => xu_ne _ _ _ h) rfl (Nat.le_of_ble_eq_true rfl) dX0_init_56 (fun H locs B G => ?_)
  refine lv_aload_n hx hb dX0_init_59 rfl (lv_at hl 0 rfl) ?_
  refine lv_iconst (v := 0) hx hb dX0_init_60 (by decide) ?_
  refine x_putR B G 0 (C := RX0) (T := TX0) (N := 11) (ci := 3) (fs := (fun f => [.int (f 0), .int (f 1), .int (f 2), .int (f 3), .ref q28, .ref q36, .ref q44, .int (f 7), .int (f 8), .int (f 9), .int (f 10)])) (fs' := (fun f => [.int (f 0), .int (f 1), .int (f 2), .int (f 3), .ref q28, .ref q36, .ref q44, .int (f 7), .int (f 8), .int (f 9), .int (f 10)])) (rfl) rfl hin0 tyX0 tyX0_ok nmX0 9 (by omega) (by decide +kernel) (fun x h => h) (Or.inl rfl) (ty := .int) (by decide +kernel) rfl rfl (V' := xu (xu (xu (vU (vU (vU (xu (xu (xu (xu (fun _ _ => 0) 0 0 k) 0 1 d) 0 2 pr) 0 3 t) 1 (fun _ => 0)) 2 (fun _ => 0)) 3 (fun _ => 0)) 0 7 (-1)) 0 8 (-1)) 0 9 0) (fun j h => xu_ne _ _ _ h) rfl (Nat.le_of_ble_eq_true rfl) dX0_init_61 (fun H locs B G => ?_)
  refine lv_aload_n hx hb dX0_init_64 rfl (lv_at hl 0 rfl) ?_
  refine lv_iconst (v := (-1)) hx hb dX0_init_65 (by decide) ?_
  refine x_putR B G 0 (C := RX0) (T := TX0) (N := 11) (ci := 3) (fs := (fun f => [.int (f 0), .int (f 1), .int (f 2), .int (f 3), .ref q28, .ref q36, .ref q44, .int (f 7), .int (f 8), .int (f 9), .int (f 10)])) (fs' := (fun f => [.int (f 0), .int (f 1), .int (f 2), .int (f 3), .ref q28, .ref q36, .ref q44, .int (f 7), .int (f 8), .int (f 9), .int (f 10)])) (rfl) rfl hin0 tyX0 tyX0_ok nmX0 10 (by omega) (by decide +kernel) (fun x h => h) (Or.inl rfl) (ty := .int) (by decide +kernel) rfl rfl (V' := xu (xu (xu (xu (vU (vU (vU (xu (xu (xu (xu (fun _ _ => 0) 0 0 k) 0 1 d) 0 2 pr) 0 3 t) 1 (fun _ => 0)) 2 (fun _ => 0)) 3 (fun _ => 0)) 0 7 (-1)) 0 8 (-1)) 0 9 0) 0 10 (-1)) (fun j h => xu_ne _ _ _ h) rfl (Nat.le_of_ble_eq_true rfl) dX0_init_66 (fun H locs B G => ?_)
  exact x_aendv hA B G (⟨rfl, ⟨rfl, rfl, rfl, rfl⟩, rfl, fun i hi => by show (if i = 0 then _ else _) = _; simp only [sU, sN]; repeat (first | rw [if_neg (by omega)]), rfl, rfl, rfl, rfl⟩) (by show 3 ≤ 3; decide) (by show 24 ≤ 24; decide) dX0_init_69
def lRaw : (Nat → Int32) → va_E := (fun f => .inr (2, [.int (f 0), .null, .int (f 2)]))
theorem x_join1 {p : Program} {s : State} {m : MethodId} {args : Array Value} {meth : Method} {c : Code} {H : Heap} {locs : List Loc} {cc : ByteArray} {nL : Nat} {ret : Option FieldType} {Ts : List Cond} {own : String} {D : va_G} {sh sh' : xS} {ad ad' : Nat → Nat} {A : Nat → Prop} {tys : List (ClassId × FieldType)} {V V' : xV}
    (B : xB p s m args meth c cc nL ret Ts own D sh ad A tys) (G : xG D sh ad A s.heap V H locs) (W' : xW D sh' ad' V' H) (hap : xApart sh ad sh' ad') (hA : ∀ (i : Nat) (mk : (Nat → Int32) → va_E), sh' i = some mk → A (ad' i)) {mk : (Nat → Int32) → va_E} (h0 : sh' 0 = some mk) (i : Nat) :
    xB p s m args meth c cc nL ret Ts own D (sU sh i mk) (aU ad i (ad' 0)) A tys ∧ xG D (sU sh i mk) (aU ad i (ad' 0)) A s.heap (vU V i (V' 0)) H locs := by
  obtain ⟨b1, b2, b3, b4, b5, b6, b7⟩ := B
  refine ⟨⟨b1, b2, b3, b4, b5.new (fun j mj hj => hap j mj 0 mk hj h0), fun j mj hj => ?_, b7⟩, G.join W' (fun j mj hj => ?_)⟩
  · by_cases e : j = i
    · rw [e, aU_s]; exact hA 0 mk h0
    · rw [sU_n _ _ e] at hj; rw [aU_n _ _ e]; exact b6 j mj hj
  · by_cases e : j = i
    · subst e
      rw [sU_s] at hj
      exact Or.inr ⟨0, mk, h0, (aU_s _ _ _).symm, by rw [vU_s]; cases hj; rfl⟩
    · rw [sU_n _ _ e] at hj
      exact Or.inl ⟨j, mj, hj, (aU_n _ _ e).symm, by rw [vU_n _ _ e]⟩
def cFill (V : xV) (i : Nat) (x : Int32) : Nat → xV
  | 0 => V
  | n + 1 => xu (cFill V i x n) i n x
theorem cFill_o (V : xV) (i : Nat) (x : Int32) (n : Nat) {j : Nat} (h : j ≠ i) : cFill V i x n j = V j := by
  induction n with
  | zero => rfl
  | succ n ih => unfold cFill; rw [xu_ne _ _ _ h, ih]
theorem cFill_s (V : xV) (i : Nat) (x : Int32) (n k : Nat) : cFill V i x n i k = if k < n then x else V i k := by
  induction n with
  | zero => rw [if_neg (Nat.not_lt_zero k)]; rfl
  | succ n ih =>
    unfold cFill
    rw [xu_row, ih]
    by_cases e : k = n
    · rw [if_pos e, if_pos (by omega)]
    · rw [if_neg e]
      by_cases e2 : k < n
      · rw [if_pos e2, if_pos (by omega)]
      · rw [if_neg e2, if_neg (by omega)]
set_option maxHeartbeats 4000000 in
set_option maxRecDepth 100000 in
theorem c_Jxa1e45_init_da8c8 (l : Launch) {D : va_G} {tys : List (ClassId × FieldType)} {mi e0 : Nat} (q : Nat) : xMa l yJxa1e45_init_da8c8 wsJxa1e45_init_da8c8 { frames := 1, cells := 0, slots := 0, locals := 60 } D (sU sN 0 lRaw) (fun _ => q) tys mi e0 (fun _ _ => 0) [.ref q] (fun v sh' ad' V' => v = none ∧ sh' = sU sN 0 lRaw ∧ ad' = (fun _ => q) ∧ V' = (fun _ _ => 0)) := by
  refine xOfa (cc := cJxa1e45_init_da8c8) (nL := 1) (ret := none) (own := RJxa1e45) (by decide) rfl rfl (Nat.le_of_ble_eq_true rfl) (sU_I _ _ _) ?_
  intro p e s m args below meth c A ls hA hname B E G hl
  have hx := B.1.1
  have hb := B.1.2.1
  have hl : lv_has ls 1 [(0, .ref q)] := hl
  refine lv_aload_n hx hb dJxa1e45_init_da8c8_0 rfl (lv_at hl 0 rfl) ?_
  refine W.objInit hx hb B.1.2.2.2.1 (B.1.2.2.2.2 (.methodLink RJxa1e45 1 objectInit) (by decide +kernel)) (B.1.2.2.2.2 (.instanceMethod objectInit) (by decide +kernel)) (B.1.2.2.2.2 (.code objectInit ⟨#[0xb1]⟩ 1 none) (by decide +kernel)) rfl (by rw [B.1.2.2.1]; exact hl.1) rfl dJxa1e45_init_da8c8_1 (Nat.le_of_ble_eq_true rfl) (Nat.le_of_ble_eq_true rfl) ?_
  refine W.eq (g2 := F0 m 4 ls []) rfl ?_
  exact x_aendv hA B G (⟨rfl, rfl, rfl, rfl⟩) (by show 0 ≤ 0; decide) (by show 0 ≤ 0; decide) dJxa1e45_init_da8c8_4
set_option maxHeartbeats 4000000 in
set_option maxRecDepth 100000 in
theorem c_Jxc12de_init_da8c8 (l : Launch) {D : va_G} {tys : List (ClassId × FieldType)} {mi e0 : Nat} (q : Nat) : xMa l yJxc12de_init_da8c8 wsJxc12de_init_da8c8 { frames := 2, cells := 0, slots := 0, locals := 100 } D (sU sN 0 lRaw) (fun _ => q) tys mi e0 (fun _ _ => 0) [.ref q] (fun v sh' ad' V' => v = none ∧ sh' = sU sN 0 lRaw ∧ ad' = (fun _ => q) ∧ V' = xu (fun _ _ => 0) 0 0 0) := by
  refine xOfa (cc := cJxc12de_init_da8c8) (nL := 1) (ret := none) (own := RJxc12de) (by decide) rfl rfl (Nat.le_of_ble_eq_true rfl) (sU_I _ _ _) ?_
  intro p e s m args below meth c A ls hA hname B E G hl
  have hx := B.1.1
  have hb := B.1.2.1
  have hinL : ∀ w ∈ wsJx4a65c0, w ∈ wsJxc12de_init_da8c8 := by decide +kernel
  have hl : lv_has ls 1 [(0, .ref q)] := hl
  refine lv_aload_n hx hb dJxc12de_init_da8c8_0 rfl (lv_at hl 0 rfl) ?_
  refine x_callIa (rest := []) B E G (c_Jxa1e45_init_da8c8 l q) (cwI 0 B.1.2.2.2.2 gJxc12de_init_da8c8_Jxa1e45_init_da8c8 rfl rfl rfl (B.1.2.2.2.2 (.initialized RJxa1e45) (by decide +kernel)) (B.1.2.2.2.2 (.methodLink RJxc12de 1 yJxa1e45_init_da8c8) (by decide +kernel)) (B.1.2.2.2.2 (.instanceMethod yJxa1e45_init_da8c8) (by decide +kernel)) rfl (by decide +kernel) ⟨Nat.le_of_ble_eq_true rfl, Nat.le_of_ble_eq_true rfl⟩) rfl hl.1 rfl (Nat.le_of_ble_eq_true rfl) ⟨Nat.le_refl _, Nat.le_refl _⟩ dJxc12de_init_da8c8_1 (fun v sh1 ad1 V1 H locs hR B G => ?_)
  obtain ⟨rfl, rfl, rfl, rfl⟩ := hR
  refine W.eq (g2 := F0 m 4 ls []) rfl ?_
  refine lv_aload_n hx hb dJxc12de_init_da8c8_4 rfl (lv_at hl 0 rfl) ?_
  refine lv_iconst (v := 0) hx hb dJxc12de_init_da8c8_5 (by decide) ?_
  refine x_putR B G 0 (C := RJx4a65c) (T := TJx4a65c) (N := 3) (ci := 2) (fs := (fun f => [.int (f 0), .null, .int (f 2)])) (fs' := (fun f => [.int (f 0), .null, .int (f 2)])) (rfl) rfl hinL tyJx4a65c tyJx4a65c_ok nmJx4a65c 0 (by omega) (by decide +kernel) (fun x h => h) (Or.inl rfl) (ty := .int) (by decide +kernel) rfl rfl (V' := xu (fun _ _ => 0) 0 0 0) (fun j h => xu_ne _ _ _ h) rfl (Nat.le_of_ble_eq_true rfl) dJxc12de_init_da8c8_6 (fun H locs B G => ?_)
  exact x_aendv hA B G (⟨rfl, sU_sU _ _ _ _, rfl, rfl⟩) (by show 0 ≤ 0; decide) (by show 0 ≤ 0; decide) dJxc12de_init_da8c8_9
set_option maxHeartbeats 4000000 in
set_option maxRecDepth 100000 in
theorem c_Jx4a65c_init_da8c8 (l : Launch) {D : va_G} {tys : List (ClassId × FieldType)} {mi e0 : Nat} (q : Nat) : xMa l yJx4a65c_init_da8c8 wsJx4a65c_init_da8c8 { frames := 3, cells := 0, slots := 0, locals := 140 } D (sU sN 0 lRaw) (fun _ => q) tys mi e0 (fun _ _ => 0) [.ref q] (fun v sh' ad' V' => v = none ∧ sh' 0 = some (fun f => .inr (2, lFs e0 f)) ∧ ad' 0 = q ∧ V' 0 2 = 0) := by
  refine xOfa (cc := cJx4a65c_init_da8c8) (nL := 1) (ret := none) (own := RJx4a65c) (by decide) rfl rfl (Nat.le_of_ble_eq_true rfl) (sU_I _ _ _) ?_
  intro p e s m args below meth c A ls hA hname B E G hl
  have hx := B.1.1
  have hb := B.1.2.1
  have hinL : ∀ w ∈ wsJx4a65c0, w ∈ wsJx4a65c_init_da8c8 := by decide +kernel
  have hl : lv_has ls 1 [(0, .ref q)] := hl
  refine lv_aload_n hx hb dJx4a65c_init_da8c8_0 rfl (lv_at hl 0 rfl) ?_
  refine x_callIa (rest := []) B E G (c_Jxc12de_init_da8c8 l q) (cwI 0 B.1.2.2.2.2 gJx4a65c_init_da8c8_Jxc12de_init_da8c8 rfl rfl rfl (B.1.2.2.2.2 (.initialized RJxc12de) (by decide +kernel)) (B.1.2.2.2.2 (.methodLink RJx4a65c 1 yJxc12de_init_da8c8) (by decide +kernel)) (B.1.2.2.2.2 (.instanceMethod yJxc12de_init_da8c8) (by decide +kernel)) rfl (by decide +kernel) ⟨Nat.le_of_ble_eq_true rfl, Nat.le_of_ble_eq_true rfl⟩) rfl hl.1 rfl (Nat.le_of_ble_eq_true rfl) ⟨Nat.le_refl _, Nat.le_refl _⟩ dJx4a65c_init_da8c8_1 (fun v sh1 ad1 V1 H locs hR B G => ?_)
  obtain ⟨rfl, rfl, rfl, rfl⟩ := hR
  refine W.eq (g2 := F0 m 4 ls []) rfl ?_
  refine lv_aload_n hx hb dJx4a65c_init_da8c8_4 rfl (lv_at hl 0 rfl) ?_
  refine va_gets hx hb E.2.2.2.2.1 G.2 B.1.2.2.2.1 (B.1.2.2.2.2 (.fieldLink RJx4a65c 39 "java/util/ArrayList" "DEFAULTCAPACITY_EMPTY_ELEMENTDATA" "[Ljava/lang/Object;") (by decide +kernel)) (fun x h => h) dJx4a65c_init_da8c8_5 ?_
  refine x_putR B G 0 (C := RJx4a65c) (T := TJx4a65c) (N := 3) (ci := 2) (fs := (fun f => [.int (f 0), .null, .int (f 2)])) (fs' := (fun f => [.int (f 0), .ref e0, .int (f 2)])) (rfl) rfl hinL tyJx4a65c tyJx4a65c_ok nmJx4a65c 1 (by omega) (by decide +kernel) (fun x h => h) (Or.inl rfl) (ty := (.array (.object "java/lang/Object"))) (by decide +kernel) rfl rfl (V' := xu (fun _ _ => 0) 0 0 0) (fun _ _ => rfl) rfl (Nat.le_of_ble_eq_true rfl) dJx4a65c_init_da8c8_8 (fun H locs B G => ?_)
  exact x_aendv hA B G (⟨rfl, rfl, rfl, rfl⟩) (by show 0 ≤ 0; decide) (by show 0 ≤ 0; decide) dJx4a65c_init_da8c8_11
def pRaw : (Nat → Int32) → va_E := (fun f => .inr (4, [.null, .null, .null, .null, .null, .null, .int (f 6)]))
set_option maxHeartbeats 4000000 in
set_option maxRecDepth 100000 in
theorem c_X1_init (l : Launch) {D : va_G} {tys : List (ClassId × FieldType)} {mi e0 : Nat} {cI cZ : ClassId} (hT0 : tys[0]? = some (cI, .int)) (hT1 : tys[1]? = some (cZ, .boolean)) (q : Nat) : xMa l yX1_init wsX1_init { frames := 1, cells := 6, slots := 136, locals := 60 } D (sU sN 6 pRaw) (fun _ => q) tys mi e0 (fun _ _ => 0) [.ref q] (fun v sh' ad' V' => v = none ∧ xPl sh' ad' cI cZ ∧ ad' 6 = q ∧ V' 6 6 = 0) := by
  refine xOfa (cc := cX1_init) (nL := 1) (ret := none) (own := RX1) (by decide) rfl rfl (Nat.le_of_ble_eq_true rfl) (sU_I _ _ _) ?_
  intro p e s m args below meth c A ls hA hname B E G hl
  have hx := B.1.1
  have hb := B.1.2.1
  have hin1 : ∀ w ∈ wsX10, w ∈ wsX1_init := by decide +kernel
  have hl : lv_has ls 1 [(0, .ref q)] := hl
  refine lv_aload_n hx hb dX1_init_0 rfl (lv_at hl 0 rfl) ?_
  refine W.objInit hx hb B.1.2.2.2.1 (B.1.2.2.2.2 (.methodLink RX1 3 objectInit) (by decide +kernel)) (B.1.2.2.2.2 (.instanceMethod objectInit) (by decide +kernel)) (B.1.2.2.2.2 (.code objectInit ⟨#[0xb1]⟩ 1 none) (by decide +kernel)) rfl (by rw [B.1.2.2.1]; exact hl.1) rfl dX1_init_1 (Nat.le_of_ble_eq_true rfl) (Nat.le_of_ble_eq_true rfl) ?_
  refine W.eq (g2 := F0 m 4 ls []) rfl ?_
  refine lv_aload_n hx hb dX1_init_4 rfl (lv_at hl 0 rfl) ?_
  refine lv_bipush (v := 30) hx hb dX1_init_5 (by decide) ?_
  refine x_newa B G 9 .int (atype := .int) rfl rfl (by decide +kernel) 0 hT0 (fun _ _ h => h) (N := 30) (by decide) rfl (by decide) (by show 1 ≤ 6; decide) (Nat.le_of_ble_eq_true rfl) dX1_init_7 (fun q7 H B G => ?_)
  refine x_putR B G 6 (C := RX1) (T := TX1) (N := 7) (ci := 4) (fs := (fun f => [.null, .null, .null, .null, .null, .null, .int (f 6)])) (fs' := (fun f => [.ref q7, .null, .null, .null, .null, .null, .int (f 6)])) (rfl) rfl hin1 tyX1 tyX1_ok nmX1 0 (by omega) (by decide +kernel) (fun x h => h) (Or.inr ⟨rfl, hname, rfl⟩) (ty := (.array .int)) (by decide +kernel) rfl rfl (V' := vU (fun _ _ => 0) 9 (fun _ => 0)) (fun _ _ => rfl) rfl (Nat.le_of_ble_eq_true rfl) dX1_init_9 (fun H locs B G => ?_)
  refine lv_aload_n hx hb dX1_init_12 rfl (lv_at hl 0 rfl) ?_
  refine lv_bipush (v := 30) hx hb dX1_init_13 (by decide) ?_
  refine x_newa B G 10 .int (atype := .int) rfl rfl (by decide +kernel) 0 hT0 (fun _ _ h => h) (N := 30) (by decide) rfl (by decide) (by show 2 ≤ 6; decide) (Nat.le_of_ble_eq_true rfl) dX1_init_15 (fun q15 H B G => ?_)
  refine x_putR B G 6 (C := RX1) (T := TX1) (N := 7) (ci := 4) (fs := (fun f => [.ref q7, .null, .null, .null, .null, .null, .int (f 6)])) (fs' := (fun f => [.ref q7, .ref q15, .null, .null, .null, .null, .int (f 6)])) (rfl) rfl hin1 tyX1 tyX1_ok nmX1 1 (by omega) (by decide +kernel) (fun x h => h) (Or.inr ⟨rfl, hname, rfl⟩) (ty := (.array .int)) (by decide +kernel) rfl rfl (V' := vU (vU (fun _ _ => 0) 9 (fun _ => 0)) 10 (fun _ => 0)) (fun _ _ => rfl) rfl (Nat.le_of_ble_eq_true rfl) dX1_init_17 (fun H locs B G => ?_)
  refine lv_aload_n hx hb dX1_init_20 rfl (lv_at hl 0 rfl) ?_
  refine lv_bipush (v := 30) hx hb dX1_init_21 (by decide) ?_
  refine x_newa B G 11 .int (atype := .int) rfl rfl (by decide +kernel) 0 hT0 (fun _ _ h => h) (N := 30) (by decide) rfl (by decide) (by show 3 ≤ 6; decide) (Nat.le_of_ble_eq_true rfl) dX1_init_23 (fun q23 H B G => ?_)
  refine x_putR B G 6 (C := RX1) (T := TX1) (N := 7) (ci := 4) (fs := (fun f => [.ref q7, .ref q15, .null, .null, .null, .null, .int (f 6)])) (fs' := (fun f => [.ref q7, .ref q15, .ref q23, .null, .null, .null, .int (f 6)])) (rfl) rfl hin1 tyX1 tyX1_ok nmX1 2 (by omega) (by decide +kernel) (fun x h => h) (Or.inr ⟨rfl, hname, rfl⟩) (ty := (.array .int)) (by decide +kernel) rfl rfl (V' := vU (vU (vU (fun _ _ => 0) 9 (fun _ => 0)) 10 (fun _ => 0)) 11 (fun _ => 0)) (fun _ _ => rfl) rfl (Nat.le_of_ble_eq_true rfl) dX1_init_25 (fun H locs B G => ?_)
  refine lv_aload_n hx hb dX1_init_28 rfl (lv_at hl 0 rfl) ?_
  refine lv_bipush (v := 30) hx hb dX1_init_29 (by decide) ?_
  refine x_newa B G 12 .int (atype := .int) rfl rfl (by decide +kernel) 0 hT0 (fun _ _ h => h) (N := 30) (by decide) rfl (by decide) (by show 4 ≤ 6; decide) (Nat.le_of_ble_eq_true rfl) dX1_init_31 (fun q31 H B G => ?_)
  refine x_putR B G 6 (C := RX1) (T := TX1) (N := 7) (ci := 4) (fs := (fun f => [.ref q7, .ref q15, .ref q23, .null, .null, .null, .int (f 6)])) (fs' := (fun f => [.ref q7, .ref q15, .ref q23, .ref q31, .null, .null, .int (f 6)])) (rfl) rfl hin1 tyX1 tyX1_ok nmX1 3 (by omega) (by decide +kernel) (fun x h => h) (Or.inr ⟨rfl, hname, rfl⟩) (ty := (.array .int)) (by decide +kernel) rfl rfl (V' := vU (vU (vU (vU (fun _ _ => 0) 9 (fun _ => 0)) 10 (fun _ => 0)) 11 (fun _ => 0)) 12 (fun _ => 0)) (fun _ _ => rfl) rfl (Nat.le_of_ble_eq_true rfl) dX1_init_33 (fun H locs B G => ?_)
  refine lv_aload_n hx hb dX1_init_36 rfl (lv_at hl 0 rfl) ?_
  refine lv_bipush (v := 8) hx hb dX1_init_37 (by decide) ?_
  refine x_newa B G 13 .int (atype := .int) rfl rfl (by decide +kernel) 0 hT0 (fun _ _ h => h) (N := 8) (by decide) rfl (by decide) (by show 5 ≤ 6; decide) (Nat.le_of_ble_eq_true rfl) dX1_init_39 (fun q39 H B G => ?_)
  refine x_putR B G 6 (C := RX1) (T := TX1) (N := 7) (ci := 4) (fs := (fun f => [.ref q7, .ref q15, .ref q23, .ref q31, .null, .null, .int (f 6)])) (fs' := (fun f => [.ref q7, .ref q15, .ref q23, .ref q31, .ref q39, .null, .int (f 6)])) (rfl) rfl hin1 tyX1 tyX1_ok nmX1 4 (by omega) (by decide +kernel) (fun x h => h) (Or.inr ⟨rfl, hname, rfl⟩) (ty := (.array .int)) (by decide +kernel) rfl rfl (V' := vU (vU (vU (vU (vU (fun _ _ => 0) 9 (fun _ => 0)) 10 (fun _ => 0)) 11 (fun _ => 0)) 12 (fun _ => 0)) 13 (fun _ => 0)) (fun _ _ => rfl) rfl (Nat.le_of_ble_eq_true rfl) dX1_init_41 (fun H locs B G => ?_)
  refine lv_aload_n hx hb dX1_init_44 rfl (lv_at hl 0 rfl) ?_
  refine lv_bipush (v := 8) hx hb dX1_init_45 (by decide) ?_
  refine x_newa B G 14 .boolean (atype := .boolean) rfl rfl (by decide +kernel) 1 hT1 (fun _ _ h => h) (N := 8) (by decide) rfl (by decide) (by show 6 ≤ 6; decide) (Nat.le_of_ble_eq_true rfl) dX1_init_47 (fun q47 H B G => ?_)
  refine x_putR B G 6 (C := RX1) (T := TX1) (N := 7) (ci := 4) (fs := (fun f => [.ref q7, .ref q15, .ref q23, .ref q31, .ref q39, .null, .int (f 6)])) (fs' := (fun f => [.ref q7, .ref q15, .ref q23, .ref q31, .ref q39, .ref q47, .int (f 6)])) (rfl) rfl hin1 tyX1 tyX1_ok nmX1 5 (by omega) (by decide +kernel) (fun x h => h) (Or.inr ⟨rfl, hname, rfl⟩) (ty := (.array .boolean)) (by decide +kernel) rfl rfl (V' := vU (vU (vU (vU (vU (vU (fun _ _ => 0) 9 (fun _ => 0)) 10 (fun _ => 0)) 11 (fun _ => 0)) 12 (fun _ => 0)) 13 (fun _ => 0)) 14 (fun _ => 0)) (fun _ _ => rfl) rfl (Nat.le_of_ble_eq_true rfl) dX1_init_49 (fun H locs B G => ?_)
  refine lv_aload_n hx hb dX1_init_52 rfl (lv_at hl 0 rfl) ?_
  refine lv_iconst (v := 0) hx hb dX1_init_53 (by decide) ?_
  refine x_putR B G 6 (C := RX1) (T := TX1) (N := 7) (ci := 4) (fs := (fun f => [.ref q7, .ref q15, .ref q23, .ref q31, .ref q39, .ref q47, .int (f 6)])) (fs' := (fun f => [.ref q7, .ref q15, .ref q23, .ref q31, .ref q39, .ref q47, .int (f 6)])) (rfl) rfl hin1 tyX1 tyX1_ok nmX1 6 (by omega) (by decide +kernel) (fun x h => h) (Or.inl rfl) (ty := .int) (by decide +kernel) rfl rfl (V' := xu (vU (vU (vU (vU (vU (vU (fun _ _ => 0) 9 (fun _ => 0)) 10 (fun _ => 0)) 11 (fun _ => 0)) 12 (fun _ => 0)) 13 (fun _ => 0)) 14 (fun _ => 0)) 6 6 0) (fun j h => xu_ne _ _ _ h) rfl (Nat.le_of_ble_eq_true rfl) dX1_init_54 (fun H locs B G => ?_)
  exact x_aendv hA B G (⟨rfl, ⟨rfl, rfl, rfl, rfl, rfl, rfl, rfl⟩, rfl, rfl⟩) (by show 6 ≤ 6; decide) (by show 136 ≤ 136; decide) dX1_init_57
def zW (V : xV) : Prop := ∀ i k, V i k = 0
theorem zW_vU {V : xV} (h : zW V) (i : Nat) : zW (vU V i (fun _ => 0)) := by
  intro j k
  by_cases e : j = i
  · subst e; rw [vU_s]
  · rw [vU_n _ _ e]; exact h j k
def dRaw : (Nat → Int32) → va_E := (fun f => .inr (5, [.int (f 0), .null, .null, .null, .null, .null, .null]))
def jPl : Nat → Bool := fun j => j == 6 || (9 ≤ j && j ≤ 14 : Bool)
set_option maxHeartbeats 4000000 in
set_option maxRecDepth 100000 in
theorem c_X2_init (l : Launch) {D : va_G} {tys : List (ClassId × FieldType)} {mi e0 : Nat} {cI cZ cO : ClassId} (hT0 : tys[0]? = some (cI, .int)) (hT1 : tys[1]? = some (cZ, .boolean)) (hT2 : tys[2]? = some (cO, .object "java/lang/Object")) (q : Nat) : xMa l yX2_init wsX2_init { frames := 4, cells := 12, slots := 200, locals := 220 } D (sU sN 0 dRaw) (fun _ => q) tys mi e0 (fun _ _ => 0) [.ref q] (fun v sh' ad' V' => v = none ∧ xDl sh' ad' cI cZ cO tys 0 (fun i => i) ∧ ad' 0 = q ∧ sh' 4 = some (fun f => .inr (2, lFs e0 f)) ∧ sh' 5 = some (fun f => .inr (2, lFs e0 f)) ∧ V' 0 0 = 0 ∧ (∀ n, n < 8 → V' 1 n = 4) ∧ (∀ n, V' 2 n = 0) ∧ (∀ n, V' 3 n = 0) ∧ V' 4 2 = 0 ∧ V' 5 2 = 0 ∧ V' 6 6 = 0) := by
  refine xOfa (cc := cX2_init) (nL := 2) (ret := none) (own := RX2) (by decide) rfl rfl (Nat.le_of_ble_eq_true rfl) (sU_I _ _ _) ?_
  intro p e s m args below meth c A ls hA hname B E G hl
  have hx := B.1.1
  have hb := B.1.2.1
  have hin1 : ∀ w ∈ wsX10, w ∈ wsX2_init := by decide +kernel
  have hin2 : ∀ w ∈ wsX20, w ∈ wsX2_init := by decide +kernel
  have hinL : ∀ w ∈ wsJx4a65c0, w ∈ wsX2_init := by decide +kernel
  have hl : lv_has ls 2 [(0, .ref q)] := hl
  refine lv_aload_n hx hb dX2_init_0 rfl (lv_at hl 0 rfl) ?_
  refine W.objInit hx hb B.1.2.2.2.1 (B.1.2.2.2.2 (.methodLink RX2 1 objectInit) (by decide +kernel)) (B.1.2.2.2.2 (.instanceMethod objectInit) (by decide +kernel)) (B.1.2.2.2.2 (.code objectInit ⟨#[0xb1]⟩ 1 none) (by decide +kernel)) rfl (by rw [B.1.2.2.1]; exact hl.1) rfl dX2_init_1 (Nat.le_of_ble_eq_true rfl) (Nat.le_of_ble_eq_true rfl) ?_
  refine W.eq (g2 := F0 m 4 ls []) rfl ?_
  refine lv_aload_n hx hb dX2_init_4 rfl (lv_at hl 0 rfl) ?_
  refine lv_iconst (v := 0) hx hb dX2_init_5 (by decide) ?_
  refine x_putR B G 0 (C := RX2) (T := TX2) (N := 7) (ci := 5) (fs := (fun f => [.int (f 0), .null, .null, .null, .null, .null, .null])) (fs' := (fun f => [.int (f 0), .null, .null, .null, .null, .null, .null])) (rfl) rfl hin2 tyX2 tyX2_ok nmX2 0 (by omega) (by decide +kernel) (fun x h => h) (Or.inl rfl) (ty := .int) (by decide +kernel) rfl rfl (V' := xu (fun _ _ => 0) 0 0 0) (fun j h => xu_ne _ _ _ h) rfl (Nat.le_of_ble_eq_true rfl) dX2_init_6 (fun H locs B G => ?_)
  refine lv_aload_n hx hb dX2_init_9 rfl (lv_at hl 0 rfl) ?_
  refine lv_bipush (v := 8) hx hb dX2_init_10 (by decide) ?_
  refine x_newa B G 1 .int (atype := .int) rfl rfl (by decide +kernel) 0 hT0 (fun _ _ h => h) (N := 8) (by decide) rfl (by decide) (by show 1 ≤ 12; decide) (Nat.le_of_ble_eq_true rfl) dX2_init_12 (fun q12 H B G => ?_)
  refine x_putR B G 0 (C := RX2) (T := TX2) (N := 7) (ci := 5) (fs := (fun f => [.int (f 0), .null, .null, .null, .null, .null, .null])) (fs' := (fun f => [.int (f 0), .ref q12, .null, .null, .null, .null, .null])) (rfl) rfl hin2 tyX2 tyX2_ok nmX2 1 (by omega) (by decide +kernel) (fun x h => h) (Or.inr ⟨rfl, hname, rfl⟩) (ty := (.array .int)) (by decide +kernel) rfl rfl (V' := vU (xu (fun _ _ => 0) 0 0 0) 1 (fun _ => 0)) (fun _ _ => rfl) rfl (Nat.le_of_ble_eq_true rfl) dX2_init_14 (fun H locs B G => ?_)
  refine lv_aload_n hx hb dX2_init_17 rfl (lv_at hl 0 rfl) ?_
  refine lv_bipush (v := 8) hx hb dX2_init_18 (by decide) ?_
  refine x_newa B G 2 .int (atype := .int) rfl rfl (by decide +kernel) 0 hT0 (fun _ _ h => h) (N := 8) (by decide) rfl (by decide) (by show 2 ≤ 12; decide) (Nat.le_of_ble_eq_true rfl) dX2_init_20 (fun q20 H B G => ?_)
  refine x_putR B G 0 (C := RX2) (T := TX2) (N := 7) (ci := 5) (fs := (fun f => [.int (f 0), .ref q12, .null, .null, .null, .null, .null])) (fs' := (fun f => [.int (f 0), .ref q12, .ref q20, .null, .null, .null, .null])) (rfl) rfl hin2 tyX2 tyX2_ok nmX2 2 (by omega) (by decide +kernel) (fun x h => h) (Or.inr ⟨rfl, hname, rfl⟩) (ty := (.array .int)) (by decide +kernel) rfl rfl (V' := vU (vU (xu (fun _ _ => 0) 0 0 0) 1 (fun _ => 0)) 2 (fun _ => 0)) (fun _ _ => rfl) rfl (Nat.le_of_ble_eq_true rfl) dX2_init_22 (fun H locs B G => ?_)
  refine lv_aload_n hx hb dX2_init_25 rfl (lv_at hl 0 rfl) ?_
  refine lv_bipush (v := 8) hx hb dX2_init_26 (by decide) ?_
  refine x_newa B G 3 .int (atype := .int) rfl rfl (by decide +kernel) 0 hT0 (fun _ _ h => h) (N := 8) (by decide) rfl (by decide) (by show 3 ≤ 12; decide) (Nat.le_of_ble_eq_true rfl) dX2_init_28 (fun q28 H B G => ?_)
  refine x_putR B G 0 (C := RX2) (T := TX2) (N := 7) (ci := 5) (fs := (fun f => [.int (f 0), .ref q12, .ref q20, .null, .null, .null, .null])) (fs' := (fun f => [.int (f 0), .ref q12, .ref q20, .ref q28, .null, .null, .null])) (rfl) rfl hin2 tyX2 tyX2_ok nmX2 3 (by omega) (by decide +kernel) (fun x h => h) (Or.inr ⟨rfl, hname, rfl⟩) (ty := (.array .int)) (by decide +kernel) rfl rfl (V' := vU (vU (vU (xu (fun _ _ => 0) 0 0 0) 1 (fun _ => 0)) 2 (fun _ => 0)) 3 (fun _ => 0)) (fun _ _ => rfl) rfl (Nat.le_of_ble_eq_true rfl) dX2_init_30 (fun H locs B G => ?_)
  refine lv_aload_n hx hb dX2_init_33 rfl (lv_at hl 0 rfl) ?_
  refine x_newS B G 0 (C := RJx4a65c) (T := TJx4a65c) (N := 3) (ci := 2) (fun f => [.int (f 0), .null, .int (f 2)]) rfl hinL tyJx4a65c tyJx4a65c_ok (by decide +kernel) (by decide +kernel) (by decide +kernel) (fun j hj => by rcases (show j = 0 ∨ j = 1 ∨ j = 2 by omega) with rfl | rfl | rfl <;> rfl) (by show 4 ≤ 12; decide) (Nat.le_of_ble_eq_true rfl) dX2_init_34 (fun q34 H G W0 hap hAq => ?_)
  refine lv_dup hx hb dX2_init_37 rfl ?_
  refine x_callISub (rest := [.ref q34, .ref q]) B E G W0 (fun i mk hi => hAq) hap (c_Jx4a65c_init_da8c8 l q34) (cwI 0 B.1.2.2.2.2 gX2_init_Jx4a65c_init_da8c8 rfl rfl rfl (B.1.2.2.2.2 (.initialized RJx4a65c) (by decide +kernel)) (B.1.2.2.2.2 (.methodLink RX2 25 yJx4a65c_init_da8c8) (by decide +kernel)) (B.1.2.2.2.2 (.instanceMethod yJx4a65c_init_da8c8) (by decide +kernel)) rfl (by decide +kernel) ⟨Nat.le_of_ble_eq_true rfl, Nat.le_of_ble_eq_true rfl⟩) rfl hl.1 rfl (Nat.le_of_ble_eq_true rfl) ⟨Nat.le_of_ble_eq_true rfl, Nat.le_of_ble_eq_true rfl⟩ dX2_init_38 (fun v sh38 ad38 V38 H locs hR hI9 hA9 hap9 W9 G => ?_)
  obtain ⟨rfl, hr1_38, hr2_38, hr3_38⟩ := hR
  obtain ⟨B, G⟩ := x_join1 B G W9 hap9 hA9 hr1_38 4
  subst hr2_38
  refine W.eq (g2 := F0 m 41 ls [.ref (ad38 0), .ref q]) rfl ?_
  refine x_putR B G 0 (C := RX2) (T := TX2) (N := 7) (ci := 5) (fs := (fun f => [.int (f 0), .ref q12, .ref q20, .ref q28, .null, .null, .null])) (fs' := (fun f => [.int (f 0), .ref q12, .ref q20, .ref q28, .ref (ad38 0), .null, .null])) (rfl) rfl hin2 tyX2 tyX2_ok nmX2 4 (by omega) (by decide +kernel) (fun x h => h) (Or.inr ⟨rfl, hname, rfl⟩) (ty := (.object "java/util/ArrayList")) (by decide +kernel) rfl rfl (V' := vU (vU (vU (vU (xu (fun _ _ => 0) 0 0 0) 1 (fun _ => 0)) 2 (fun _ => 0)) 3 (fun _ => 0)) 4 (V38 0)) (fun _ _ => rfl) rfl (Nat.le_of_ble_eq_true rfl) dX2_init_41 (fun H locs B G => ?_)
  refine lv_aload_n hx hb dX2_init_44 rfl (lv_at hl 0 rfl) ?_
  refine x_newS B G 0 (C := RJx4a65c) (T := TJx4a65c) (N := 3) (ci := 2) (fun f => [.int (f 0), .null, .int (f 2)]) rfl hinL tyJx4a65c tyJx4a65c_ok (by decide +kernel) (by decide +kernel) (by decide +kernel) (fun j hj => by rcases (show j = 0 ∨ j = 1 ∨ j = 2 by omega) with rfl | rfl | rfl <;> rfl) (by show 5 ≤ 12; decide) (Nat.le_of_ble_eq_true rfl) dX2_init_45 (fun q45 H G W0 hap hAq => ?_)
  refine lv_dup hx hb dX2_init_48 rfl ?_
  refine x_callISub (rest := [.ref q45, .ref q]) B E G W0 (fun i mk hi => hAq) hap (c_Jx4a65c_init_da8c8 l q45) (cwI 0 B.1.2.2.2.2 gX2_init_Jx4a65c_init_da8c8 rfl rfl rfl (B.1.2.2.2.2 (.initialized RJx4a65c) (by decide +kernel)) (B.1.2.2.2.2 (.methodLink RX2 25 yJx4a65c_init_da8c8) (by decide +kernel)) (B.1.2.2.2.2 (.instanceMethod yJx4a65c_init_da8c8) (by decide +kernel)) rfl (by decide +kernel) ⟨Nat.le_of_ble_eq_true rfl, Nat.le_of_ble_eq_true rfl⟩) rfl hl.1 rfl (Nat.le_of_ble_eq_true rfl) ⟨Nat.le_of_ble_eq_true rfl, Nat.le_of_ble_eq_true rfl⟩ dX2_init_49 (fun v sh49 ad49 V49 H locs hR hI9 hA9 hap9 W9 G => ?_)
  obtain ⟨rfl, hr1_49, hr2_49, hr3_49⟩ := hR
  obtain ⟨B, G⟩ := x_join1 B G W9 hap9 hA9 hr1_49 5
  subst hr2_49
  refine W.eq (g2 := F0 m 52 ls [.ref (ad49 0), .ref q]) rfl ?_
  refine x_putR B G 0 (C := RX2) (T := TX2) (N := 7) (ci := 5) (fs := (fun f => [.int (f 0), .ref q12, .ref q20, .ref q28, .ref (ad38 0), .null, .null])) (fs' := (fun f => [.int (f 0), .ref q12, .ref q20, .ref q28, .ref (ad38 0), .ref (ad49 0), .null])) (rfl) rfl hin2 tyX2 tyX2_ok nmX2 5 (by omega) (by decide +kernel) (fun x h => h) (Or.inr ⟨rfl, hname, rfl⟩) (ty := (.object "java/util/ArrayList")) (by decide +kernel) rfl rfl (V' := vU (vU (vU (vU (vU (xu (fun _ _ => 0) 0 0 0) 1 (fun _ => 0)) 2 (fun _ => 0)) 3 (fun _ => 0)) 4 (V38 0)) 5 (V49 0)) (fun _ _ => rfl) rfl (Nat.le_of_ble_eq_true rfl) dX2_init_52 (fun H locs B G => ?_)
  refine lv_aload_n hx hb dX2_init_55 rfl (lv_at hl 0 rfl) ?_
  refine x_newS B G 6 (C := RX1) (T := TX1) (N := 7) (ci := 4) (fun f => [.null, .null, .null, .null, .null, .null, .int (f 6)]) rfl hin1 tyX1 tyX1_ok (by decide +kernel) (by decide +kernel) (by decide +kernel) (fun j hj => by rcases (show j = 0 ∨ j = 1 ∨ j = 2 ∨ j = 3 ∨ j = 4 ∨ j = 5 ∨ j = 6 by omega) with rfl | rfl | rfl | rfl | rfl | rfl | rfl <;> rfl) (by show 6 ≤ 12; decide) (Nat.le_of_ble_eq_true rfl) dX2_init_56 (fun q56 H G W0 hap hAq => ?_)
  refine lv_dup hx hb dX2_init_59 rfl ?_
  refine x_callISub (rest := [.ref q56, .ref q]) B E G W0 (fun i mk hi => hAq) hap (c_X1_init l hT0 hT1 q56) (cwI 0 B.1.2.2.2.2 gX2_init_X1_init rfl rfl rfl (B.1.2.2.2.2 (.initialized RX1) (by decide +kernel)) (B.1.2.2.2.2 (.methodLink RX2 35 yX1_init) (by decide +kernel)) (B.1.2.2.2.2 (.instanceMethod yX1_init) (by decide +kernel)) rfl (by decide +kernel) ⟨Nat.le_of_ble_eq_true rfl, Nat.le_of_ble_eq_true rfl⟩) rfl hl.1 rfl (Nat.le_of_ble_eq_true rfl) ⟨Nat.le_of_ble_eq_true rfl, Nat.le_of_ble_eq_true rfl⟩ dX2_init_60 (fun v sh60 ad60 V60 H locs hR hI9 hA9 hap9 W9 G => ?_)
  obtain ⟨rfl, hp1, hp2, hp3⟩ := hR
  have B := B.joinJ hI9 hA9 hap9 jPl
  have G := G.joinJ W9 jPl
  subst hp2
  refine W.eq (g2 := F0 m 63 ls [.ref (ad60 6), .ref q]) rfl ?_
  refine x_putR B G 0 (C := RX2) (T := TX2) (N := 7) (ci := 5) (fs := (fun f => [.int (f 0), .ref q12, .ref q20, .ref q28, .ref (ad38 0), .ref (ad49 0), .null])) (fs' := (fun f => [.int (f 0), .ref q12, .ref q20, .ref q28, .ref (ad38 0), .ref (ad49 0), .ref (ad60 6)])) (rfl) rfl hin2 tyX2 tyX2_ok nmX2 6 (by omega) (by decide +kernel) (fun x h => h) (Or.inr ⟨rfl, hname, rfl⟩) (ty := (.object "Delaypouch$Plan")) (by decide +kernel) rfl rfl (V' := mJ jPl V60 (vU (vU (vU (vU (vU (xu (fun _ _ => 0) 0 0 0) 1 (fun _ => 0)) 2 (fun _ => 0)) 3 (fun _ => 0)) 4 (V38 0)) 5 (V49 0))) (fun _ _ => rfl) rfl (Nat.le_of_ble_eq_true rfl) dX2_init_63 (fun H locs B G => ?_)
  refine lv_iconst (v := 0) hx hb dX2_init_66 (by decide) ?_
  refine lv_istore_n (lv' := [(1, .int 0), (0, .ref q)]) hx hb dX2_init_67 rfl hl (by decide) rfl (fun ls hl => ?_)
  obtain ⟨sh, eF⟩ : ∃ z : xS, z = (sU (mJ jPl sh60 (sU (sU (sU (sU (sU (sU (sU (sU (sU (sU (sU (sU sN 0 dRaw) 0 (fun f => .inr (5, [.int (f 0), .null, .null, .null, .null, .null, .null]))) 1 (fun f => .inl (cI, 8, .inl f))) 0 (fun f => .inr (5, [.int (f 0), .ref q12, .null, .null, .null, .null, .null]))) 2 (fun f => .inl (cI, 8, .inl f))) 0 (fun f => .inr (5, [.int (f 0), .ref q12, .ref q20, .null, .null, .null, .null]))) 3 (fun f => .inl (cI, 8, .inl f))) 0 (fun f => .inr (5, [.int (f 0), .ref q12, .ref q20, .ref q28, .null, .null, .null]))) 4 (fun f => .inr (2, lFs e0 f))) 0 (fun f => .inr (5, [.int (f 0), .ref q12, .ref q20, .ref q28, .ref (ad38 0), .null, .null]))) 5 (fun f => .inr (2, lFs e0 f))) 0 (fun f => .inr (5, [.int (f 0), .ref q12, .ref q20, .ref q28, .ref (ad38 0), .ref (ad49 0), .null])))) 0 (fun f => .inr (5, [.int (f 0), .ref q12, .ref q20, .ref q28, .ref (ad38 0), .ref (ad49 0), .ref (ad60 6)]))) := ⟨_, rfl⟩
  obtain ⟨ad, eA⟩ : ∃ z : Nat → Nat, z = (mJ jPl ad60 (aU (aU (aU (aU (aU (fun _ => q) 1 q12) 2 q20) 3 q28) 4 (ad38 0)) 5 (ad49 0))) := ⟨_, rfl⟩
  obtain ⟨VF, eV0⟩ : ∃ z : xV, z = mJ jPl V60 (vU (vU (vU (vU (vU (xu (fun _ _ => 0) 0 0 0) 1 (fun _ => 0)) 2 (fun _ => 0)) 3 (fun _ => 0)) 4 (V38 0)) 5 (V49 0)) := ⟨_, rfl⟩
  have B : xB p s m args meth c cX2_init 2 none wsX2_init RX2 D sh ad A tys := by rw [eF, eA]; exact B
  have G : xG D sh ad A s.heap VF H locs := by rw [eF, eA, eV0]; exact G
  have e_0 : q = ad 0 := by rw [eA]; rfl
  have e_1 : ad 1 = q12 := by rw [eA]; rfl
  have hs0 : sh 0 = some (fun f => .inr (5, [.int (f 0), .ref q12, .ref q20, .ref q28, .ref (ad38 0), .ref (ad49 0), .ref (ad60 6)])) := by rw [eF]; rfl
  have hs1 : sh 1 = some (fun f => .inl (cI, 8, .inl f)) := by rw [eF]; rfl
  have hl : lv_has ls 2 [(1, .int 0), (0, .ref (ad 0))] := lv_cast hl (by rw [e_0])
  have loop_68 : ∀ (f i : Nat), i ≤ 8 → 8 < i + f → ∀ (H : Heap) (locs : List Loc) (ls : Array Slot), xG D sh ad A s.heap (cFill VF 1 4 i) H locs → lv_has ls 2 [(0, .ref (ad 0)), (1, .int (nI i))] → W p l e ({ frames := 4, cells := 12, slots := 200, locals := 220 }) s m args below meth c H locs 12 173 (xQa below D (sU sN 0 dRaw) (fun _ => q) tys s.heap.size A args s 12 200 (fun v sh' ad' V' => v = none ∧ xDl sh' ad' cI cZ cO tys 0 (fun i => i) ∧ ad' 0 = q ∧ sh' 4 = some (fun f => .inr (2, lFs e0 f)) ∧ sh' 5 = some (fun f => .inr (2, lFs e0 f)) ∧ V' 0 0 = 0 ∧ (∀ n, n < 8 → V' 1 n = 4) ∧ (∀ n, V' 2 n = 0) ∧ (∀ n, V' 3 n = 0) ∧ V' 4 2 = 0 ∧ V' 5 2 = 0 ∧ V' 6 6 = 0)) (F0 m 68 ls []) := by
    intro f
    induction f with
    | zero => intro i h1 h2; exact absurd h2 (by omega)
    | succ f ih_68 =>
      intro i hi hf H locs ls G hl
      refine lv_iload_n hx hb dX2_init_68 rfl (lv_at hl 1 rfl) ?_
      refine lv_bipush (v := 8) hx hb dX2_init_69 (by decide) ?_
      refine lv_icmp_ge (tgt := 87) hx hb dX2_init_71 (by decide) (fun c_71 => ?_) (fun c_71 => ?_)
      · skip
        have c_71 : 8 ≤ i := (nI_leI (a := 8) (b := i) (by omega) (by omega)).mp c_71
        have e_i : i = 8 := by omega
        subst e_i
        have hs4 : sh 4 = some (fun f => .inr (2, lFs e0 f)) := by rw [eF]; rfl
        have hs5 : sh 5 = some (fun f => .inr (2, lFs e0 f)) := by rw [eF]; rfl
        obtain ⟨p1, p2, p3, p4, p5, p6, p7⟩ := hp1
        have hDl : xDl sh ad cI cZ cO tys 0 (fun i => i) := ⟨by rw [eF, eA]; exact ⟨rfl, rfl, rfl, rfl⟩, by rw [eF, eA]; exact ⟨p1, p2, p3, p4, p5, p6, p7⟩, ⟨e0, hs4, fun z => absurd rfl z⟩, ⟨e0, hs5, fun z => absurd rfl z⟩, fun k hk => absurd hk (Nat.not_lt_zero k), fun k hk => absurd hk (Nat.not_lt_zero k), ⟨hT0, hT1, B.2.2.2.2.1⟩, hT2, Nat.zero_le _⟩
        exact x_aendv hA B G (⟨rfl, hDl, e_0.symm, hs4, hs5, by rw [cFill_o _ _ _ _ (by decide), eV0]; rfl, fun n hn => by rw [cFill_s, if_pos hn], fun n => by rw [cFill_o _ _ _ _ (by decide), eV0]; rfl, fun n => by rw [cFill_o _ _ _ _ (by decide), eV0]; rfl, by rw [cFill_o _ _ _ _ (by decide), eV0]; exact hr3_38, by rw [cFill_o _ _ _ _ (by decide), eV0]; exact hr3_49, by rw [cFill_o _ _ _ _ (by decide), eV0]; exact hp3⟩) (by show 12 ≤ 12; decide) (by show 173 ≤ 200; decide) dX2_init_87
      · skip
        have c_71 : ¬ (8 ≤ i) := fun h9 => c_71 ((nI_leI (a := 8) (b := i) (by omega) (by omega)).mpr h9)
        refine lv_aload_n hx hb dX2_init_74 rfl (lv_at hl 0 rfl) ?_
        refine x_get B G 0 hs0 (C := RX2) (T := TX2) (N := 7) rfl hin2 1 (by omega) (by decide +kernel) (fun x h => h) (v := .ref (ad 1)) (by rw [e_1]; rfl) dX2_init_75 ?_
        refine lv_iload_n hx hb dX2_init_78 rfl (lv_at hl 1 rfl) ?_
        refine lv_iconst (v := 4) hx hb dX2_init_79 (by decide) ?_
        refine x_ast B G 1 hs1 0 hT0 i (show i < 8 by omega) rfl (by decide) dX2_init_80 (fun H locs G => ?_)
        refine lv_iinc (v := nI (i + 1)) (lv' := [(1, .int (nI (i + 1))), (0, .ref (ad 0))]) hx hb dX2_init_81 hl (k := 1) rfl (nI_add i 1) (by decide) rfl (fun ls hl => ?_)
        refine lv_goto (tgt := 68) hx hb dX2_init_84 (by decide) ?_
        have hl := lv_sub (l' := [(0, .ref (ad 0)), (1, .int (nI (i + 1)))]) hl [1, 0] rfl
        have eV : xu (cFill VF 1 4 i) 1 i 4 = cFill VF 1 4 (i + 1) := rfl
        rw [eV] at G
        exact ih_68 (i + 1) (by omega) (by omega) _ _ _ G hl
  have hl := lv_sub (l' := [(0, .ref (ad 0)), (1, .int 0)]) hl [1, 0] rfl
  have hl := lv_cast hl (congrArg (fun z : Int32 => ([(0, .ref (ad 0)), (1, .int z)] : List (Nat × Value))) (show 0 = (nI 0) from rfl))
  have eV : VF = cFill VF 1 4 0 := rfl
  rw [eV] at G
  exact loop_68 (8 + 1) 0 (by omega) (by omega) _ _ _ G hl
