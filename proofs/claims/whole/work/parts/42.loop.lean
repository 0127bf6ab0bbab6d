theorem lw_cmp {L i : Nat} (hL : L ≤ 3072) (hi : i ≤ 4000) : nI L - 6 < nI i ↔ L < i + 6 := by
  rcases Nat.lt_or_ge L 6 with h | h
  · have e : nI L - 6 < 0 := by rcases (show L = 0 ∨ L = 1 ∨ L = 2 ∨ L = 3 ∨ L = 4 ∨ L = 5 by omega) with rfl | rfl | rfl | rfl | rfl | rfl <;> decide
    have e2 : (0 : Int32) ≤ nI i := nI_pos' (by omega)
    constructor
    · intro _; omega
    · intro _
      rw [i_lt] at e ⊢
      rw [i_le] at e2
      omega
  · rw [show nI L - 6 = nI (L - 6) from nI_subN (p := 6) h, nI_ltI (by omega) (by omega)]
    omega
set_option maxHeartbeats 2000000 in
set_option maxRecDepth 100000 in
theorem law_loop {p : Program} (l : Launch) {e : Env} {s : State} {m : MethodId} {args : Array Value} {below : List Frame} {meth : Method} {c : Code} {A : Nat → Prop} {D : va_G} {tys : List (ClassId × FieldType)} {cI cJ : ClassId} {mi e0 : Nat} {sa : Nat → Nat} {shm : xS} {adm : Nat → Nat} {LI : Nat → xS → (Nat → Nat) → xV → xV → Prop} {b L : Nat} {xs : Nat → Int32} {Q : State → Prop} (E : xE mi e0 A s s.heap) (F : xF sa A s s.heap) (hN : xN s) (hX : va_X b L xs s s.heap) (hbl : b < s.heap.size) (hbA : ¬ A b) (hL : L ≤ 3072) (Mm : xMm shm adm cI tys) (hAm : ∀ (i : Nat) (mk : (Nat → Int32) → va_E), shm i = some mk → A (adm i)) (hT3 : tys[3]? = some (cJ, .long)) (hDo9 : ∀ t sh ad V Vm, LI t sh ad V Vm → xDo sh ad cI ∧ sh 16 = some (oMk cJ)) (hmono : ∀ t sh ad V Vm, LI t sh ad V Vm → LI (t + 1) sh ad V Vm)
    (P0 : LawP l D tys mi e0 sa shm adm LI yL_send wsL_send yX3_send wsX3_send 3 5) (P1 : LawP l D tys mi e0 sa shm adm LI yL_meet wsL_meet yX3_meet wsX3_meet 4 3) (P2 : LawP l D tys mi e0 sa shm adm LI yL_pass wsL_pass yX3_pass wsX3_pass 2 1) (P3 : LawP l D tys mi e0 sa shm adm LI yL_setBuffer wsL_setBuffer yX3_setBuffer wsX3_setBuffer 2 2) (P4 : LawP l D tys mi e0 sa shm adm LI yL_addContact wsL_addContact yX3_addContact wsX3_addContact 2 4) (P5 : LawQ l D tys shm adm LI yX2_clock wsX2_clock 4 yX3_clock wsX3_clock 1) (P6 : LawQ l D tys shm adm LI yX2_bundles wsX2_bundles 4 yX3_bundles wsX3_bundles 1) (P7 : LawP l D tys mi e0 sa shm adm LI yL_endOf wsL_endOf yX3_endOf wsX3_endOf 2 1) (P8 : LawP l D tys mi e0 sa shm adm LI yL_deliveredAt wsL_deliveredAt yX3_deliveredAt wsX3_deliveredAt 2 1) (P9 : LawP l D tys mi e0 sa shm adm LI yL_hops wsL_hops yX3_hops wsX3_hops 2 1) (P10 : LawP l D tys mi e0 sa shm adm LI yL_custodian wsL_custodian yX3_custodian wsX3_custodian 2 1) (P11 : LawP l D tys mi e0 sa shm adm LI yL_holders wsL_holders yX3_holders wsX3_holders 2 1) (P12 : LawP l D tys mi e0 sa shm adm LI yL_copies wsL_copies yX3_copies wsX3_copies 2 2) (P13 : LawB l D tys mi e0 sa shm adm LI yL_knows wsL_knows yX3_knows wsX3_knows 2 2) (P14 : LawP l D tys mi e0 sa shm adm LI yL_held wsL_held yX3_held wsX3_held 2 1) (P15 : LawP l D tys mi e0 sa shm adm LI yL_heldAt wsL_heldAt yX3_heldAt wsX3_heldAt 2 2) (P16 : LawP l D tys mi e0 sa shm adm LI yL_dropped wsL_dropped yX3_dropped wsX3_dropped 2 1) (P17 : LawP l D tys mi e0 sa shm adm LI yL_refused wsL_refused yX3_refused wsX3_refused 2 1) (P18 : LawP l D tys mi e0 sa shm adm LI yL_arrival wsL_arrival yX3_arrival wsX3_arrival 2 2) (P19 : LawP l D tys mi e0 sa shm adm LI yL_arrivalByRounds wsL_arrivalByRounds yX3_arrivalByRounds wsX3_arrivalByRounds 2 2) (P20 : LawP l D tys mi e0 sa shm adm LI yL_promised wsL_promised yX3_promised wsX3_promised 2 1)
    (hend : ∀ (H : Heap) (locs : List Loc) (ls : Array Slot) (cells slots : Nat), cells ≤ 601024 → slots ≤ 7293034 → (∀ q ∈ locs, A q.base) → W p l e room_1 s m args below meth c H locs cells slots Q (F0 m 1423 ls [])) :
    ∀ (f t i cells slots : Nat) (sh : xS) (ad : Nat → Nat) (V Vm : xV) (H : Heap) (locs : List Loc) (ls : Array Slot), i = 6 * t → i ≤ L + 6 → L + 6 < i + 6 * f → cells ≤ 1000 + 8 * t → slots ≤ 10000 + 180 * t → LSt D tys cI cJ shm adm LI b p s m args meth c A t i sh ad V Vm H locs ls → W p l e room_1 s m args below meth c H locs cells slots Q (F0 m 23 ls []) := by
  intro f
  induction f with
  | zero => intro t i cells slots sh ad V Vm H locs ls h1 h2 h3; exact absurd h3 (by omega)
  | succ f ih =>
    intro t i cells slots sh ad V Vm H locs ls h1 h2 h3 h4 h5 hS
    obtain ⟨B, G, Gm, hap, hLI, hDo, hl⟩ := id hS
    have hx := B.1.1
    have hb := B.1.2.1
    have hcc : room_1.cells = 601024 := rfl
    have hcd : room_1.slots = 7293034 := rfl
    have hback : ∀ (sh : xS) (ad : Nat → Nat) (V Vm : xV) (H : Heap) (locs : List Loc) (ls : Array Slot), i + 6 ≤ L → LSt D tys cI cJ shm adm LI b p s m args meth c A (t + 1) i sh ad V Vm H locs ls → W p l e room_1 s m args below meth c H locs (cells + 8) (slots + 180) Q (F0 m 1417 ls []) := by
      intro sh ad V Vm H locs ls hi ⟨B, G, Gm, hap, hLI, hDo, hl⟩
      refine lv_iinc (v := nI (i + 6)) (lv' := [(4, .int (nI (i + 6))), (0, .ref b), (1, .ref (ad 0)), (2, .ref (adm 17)), (3, .ref (ad 16))]) hx hb dL_law_1417 hl (k := 4) rfl (nI_add i 6) (by decide) rfl (fun ls hl => ?_)
      refine lv_goto (tgt := 23) hx hb dL_law_1420 (by decide) ?_
      have hl := lv_sub (l' := [(0, .ref b), (1, .ref (ad 0)), (2, .ref (adm 17)), (3, .ref (ad 16)), (4, .int (nI (i + 6)))]) hl [1, 2, 3, 4, 0] rfl
      exact ih (t + 1) (i + 6) _ _ sh ad V Vm H locs ls (by omega) (by omega) (by omega) (by omega) (by omega) ⟨B, G, Gm, hap, hLI, hDo, hl⟩
    refine lv_iload hx hb dL_law_23 (lv_at hl 4 rfl) ?_
    refine lv_aload_n hx hb dL_law_25 rfl (lv_at hl 0 rfl) ?_
    refine va_slen hx hb hX hbl hbA G.2 dL_law_26 ?_
    refine lv_bipush (v := 6) hx hb dL_law_27 (by decide) ?_
    refine lv_isub hx hb dL_law_29 ?_
    refine lv_icmp_gt (tgt := 1423) hx hb dL_law_30 (by decide) (fun c_30 => ?_) (fun c_30 => ?_)
    · exact hend H locs ls cells slots (by omega) (by omega) G.2.2.2
    · have hi : i + 6 ≤ L := by
        have z : ¬ L < i + 6 := fun z => c_30 ((lw_cmp hL (by omega)).mpr z)
        omega
      have ht : t < 512 := by omega
      have hcs : cells + 8 ≤ room_1.cells ∧ slots + 180 ≤ room_1.slots := ⟨by omega, by omega⟩
      refine lv_aload_n hx hb dL_law_33 rfl (lv_at hl 0 rfl) ?_
      refine lv_iload hx hb dL_law_34 (lv_at hl 4 rfl) ?_
      refine va_sld hx hb hX hbl hbA G.2 (vp_in_nI (show i < L by omega) (by omega)) dL_law_36 ?_
      refine lv_bipush (v := 31) hx hb dL_law_37 (by decide) ?_
      refine lv_iand hx hb dL_law_39 ?_
      generalize (xs (nI i).toNatClampNeg &&& 31) = x
      by_cases hout : x.toInt < 0 ∨ 20 < x.toInt
      · refine lv_tableOut (tgt := 1417) hx hb dL_law_40 hout (by decide) ?_
        exact W.widen (by omega) (by omega) (hback sh ad V Vm H locs ls hi ⟨B, G, Gm, hap, hmono _ _ _ _ _ hLI, hDo, hl⟩)
      · have h21 : x.toInt = 0 ∨ x.toInt = 1 ∨ x.toInt = 2 ∨ x.toInt = 3 ∨ x.toInt = 4 ∨ x.toInt = 5 ∨ x.toInt = 6 ∨ x.toInt = 7 ∨ x.toInt = 8 ∨ x.toInt = 9 ∨ x.toInt = 10 ∨ x.toInt = 11 ∨ x.toInt = 12 ∨ x.toInt = 13 ∨ x.toInt = 14 ∨ x.toInt = 15 ∨ x.toInt = 16 ∨ x.toInt = 17 ∨ x.toInt = 18 ∨ x.toInt = 19 ∨ x.toInt = 20 := by omega
        rcases h21 with h | h | h | h | h | h | h | h | h | h | h | h | h | h | h | h | h | h | h | h | h
        · exact lv_tableIn (off := 100) (tgt := 140) hx hb dL_law_40 (by omega) (by omega) (by rw [h]; rfl) (by decide) (law_send l E F hN hX hbl hbA hL Mm hAm hT3 hDo9 P0 ht hi hcs hS (fun sh ad V Vm H locs ls h => hback sh ad V Vm H locs ls hi h))
        · exact lv_tableIn (off := 204) (tgt := 244) hx hb dL_law_40 (by omega) (by omega) (by rw [h]; rfl) (by decide) (law_meet l E F hN hX hbl hbA hL Mm hAm hT3 hDo9 P1 ht hi hcs hS (fun sh ad V Vm H locs ls h => hback sh ad V Vm H locs ls hi h))
        · exact lv_tableIn (off := 284) (tgt := 324) hx hb dL_law_40 (by omega) (by omega) (by rw [h]; rfl) (by decide) (law_pass l E F hN hX hbl hbA hL Mm hAm hT3 hDo9 P2 ht hi hcs hS (fun sh ad V Vm H locs ls h => hback sh ad V Vm H locs ls hi h))
        · exact lv_tableIn (off := 340) (tgt := 380) hx hb dL_law_40 (by omega) (by omega) (by rw [h]; rfl) (by decide) (law_setBuffer l E F hN hX hbl hbA hL Mm hAm hT3 hDo9 P3 ht hi hcs hS (fun sh ad V Vm H locs ls h => hback sh ad V Vm H locs ls hi h))
        · exact lv_tableIn (off := 408) (tgt := 448) hx hb dL_law_40 (by omega) (by omega) (by rw [h]; rfl) (by decide) (law_addContact l E F hN hX hbl hbA hL Mm hAm hT3 hDo9 P4 ht hi hcs hS (fun sh ad V Vm H locs ls h => hback sh ad V Vm H locs ls hi h))
        · exact lv_tableIn (off := 500) (tgt := 540) hx hb dL_law_40 (by omega) (by omega) (by rw [h]; rfl) (by decide) (law_clock l E F hN hX hbl hbA hL Mm hAm hT3 hDo9 P5 ht hi hcs hS (fun sh ad V Vm H locs ls h => hback sh ad V Vm H locs ls hi h))
        · exact lv_tableIn (off := 513) (tgt := 553) hx hb dL_law_40 (by omega) (by omega) (by rw [h]; rfl) (by decide) (law_bundles l E F hN hX hbl hbA hL Mm hAm hT3 hDo9 P6 ht hi hcs hS (fun sh ad V Vm H locs ls h => hback sh ad V Vm H locs ls hi h))
        · exact lv_tableIn (off := 526) (tgt := 566) hx hb dL_law_40 (by omega) (by omega) (by rw [h]; rfl) (by decide) (law_endOf l E F hN hX hbl hbA hL Mm hAm hT3 hDo9 P7 ht hi hcs hS (fun sh ad V Vm H locs ls h => hback sh ad V Vm H locs ls hi h))
        · exact lv_tableIn (off := 582) (tgt := 622) hx hb dL_law_40 (by omega) (by omega) (by rw [h]; rfl) (by decide) (law_deliveredAt l E F hN hX hbl hbA hL Mm hAm hT3 hDo9 P8 ht hi hcs hS (fun sh ad V Vm H locs ls h => hback sh ad V Vm H locs ls hi h))
        · exact lv_tableIn (off := 638) (tgt := 678) hx hb dL_law_40 (by omega) (by omega) (by rw [h]; rfl) (by decide) (law_hops l E F hN hX hbl hbA hL Mm hAm hT3 hDo9 P9 ht hi hcs hS (fun sh ad V Vm H locs ls h => hback sh ad V Vm H locs ls hi h))
        · exact lv_tableIn (off := 694) (tgt := 734) hx hb dL_law_40 (by omega) (by omega) (by rw [h]; rfl) (by decide) (law_custodian l E F hN hX hbl hbA hL Mm hAm hT3 hDo9 P10 ht hi hcs hS (fun sh ad V Vm H locs ls h => hback sh ad V Vm H locs ls hi h))
        · exact lv_tableIn (off := 750) (tgt := 790) hx hb dL_law_40 (by omega) (by omega) (by rw [h]; rfl) (by decide) (law_holders l E F hN hX hbl hbA hL Mm hAm hT3 hDo9 P11 ht hi hcs hS (fun sh ad V Vm H locs ls h => hback sh ad V Vm H locs ls hi h))
        · exact lv_tableIn (off := 806) (tgt := 846) hx hb dL_law_40 (by omega) (by omega) (by rw [h]; rfl) (by decide) (law_copies l E F hN hX hbl hbA hL Mm hAm hT3 hDo9 P12 ht hi hcs hS (fun sh ad V Vm H locs ls h => hback sh ad V Vm H locs ls hi h))
        · exact lv_tableIn (off := 874) (tgt := 914) hx hb dL_law_40 (by omega) (by omega) (by rw [h]; rfl) (by decide) (law_knows l E F hN hX hbl hbA hL Mm hAm hT3 hDo9 P13 ht hi hcs hS (fun sh ad V Vm H locs ls h => hback sh ad V Vm H locs ls hi h))
        · exact lv_tableIn (off := 949) (tgt := 989) hx hb dL_law_40 (by omega) (by omega) (by rw [h]; rfl) (by decide) (law_held l E F hN hX hbl hbA hL Mm hAm hT3 hDo9 P14 ht hi hcs hS (fun sh ad V Vm H locs ls h => hback sh ad V Vm H locs ls hi h))
        · exact lv_tableIn (off := 1005) (tgt := 1045) hx hb dL_law_40 (by omega) (by omega) (by rw [h]; rfl) (by decide) (law_heldAt l E F hN hX hbl hbA hL Mm hAm hT3 hDo9 P15 ht hi hcs hS (fun sh ad V Vm H locs ls h => hback sh ad V Vm H locs ls hi h))
        · exact lv_tableIn (off := 1073) (tgt := 1113) hx hb dL_law_40 (by omega) (by omega) (by rw [h]; rfl) (by decide) (law_dropped l E F hN hX hbl hbA hL Mm hAm hT3 hDo9 P16 ht hi hcs hS (fun sh ad V Vm H locs ls h => hback sh ad V Vm H locs ls hi h))
        · exact lv_tableIn (off := 1129) (tgt := 1169) hx hb dL_law_40 (by omega) (by omega) (by rw [h]; rfl) (by decide) (law_refused l E F hN hX hbl hbA hL Mm hAm hT3 hDo9 P17 ht hi hcs hS (fun sh ad V Vm H locs ls h => hback sh ad V Vm H locs ls hi h))
        · exact lv_tableIn (off := 1185) (tgt := 1225) hx hb dL_law_40 (by omega) (by omega) (by rw [h]; rfl) (by decide) (law_arrival l E F hN hX hbl hbA hL Mm hAm hT3 hDo9 P18 ht hi hcs hS (fun sh ad V Vm H locs ls h => hback sh ad V Vm H locs ls hi h))
        · exact lv_tableIn (off := 1253) (tgt := 1293) hx hb dL_law_40 (by omega) (by omega) (by rw [h]; rfl) (by decide) (law_arrivalByRounds l E F hN hX hbl hbA hL Mm hAm hT3 hDo9 P19 ht hi hcs hS (fun sh ad V Vm H locs ls h => hback sh ad V Vm H locs ls hi h))
        · exact lv_tableIn (off := 1321) (tgt := 1361) hx hb dL_law_40 (by omega) (by omega) (by rw [h]; rfl) (by decide) (law_promised l E F hN hX hbl hbA hL Mm hAm hT3 hDo9 P20 ht hi hcs hS (fun sh ad V Vm H locs ls h => hback sh ad V Vm H locs ls hi h))
