/-! THE LAW: a turn from its head, the loop, the end -/
set_option maxHeartbeats 4000000 in
set_option maxRecDepth 100000 in
theorem law_s3 {p : Program} {l : Launch} (hst : l.stackTraces = false) {e : Env} {s : State} {m : MethodId} {args : Array Value} {below : List Frame} {meth : Method} {c : Code} {A : Nat → Prop} {D : va_G} {cI cZ cO : ClassId} {tys : List (ClassId × FieldType)} {mi e0 : Nat} {sa : Nat → Nat} {b ei : Nat} {Q : State → Prop} (E : xE mi e0 A s s.heap) (F : xF sa A s s.heap) (hN : xN s) {t nb nc : Nat} {od S : Nat → Nat} {sh : xS} {ad : Nat → Nat} {V : xV} {H : Heap} {locs : List Loc} {ls : Array Slot} {cells slots : Nat} (B : xB p s m args meth c cL_law 10 (some .boolean) wsL_law RL D sh ad A tys) (G : xG D sh ad A s.heap V H locs) (hL : LwS cI cZ cO tys e0 t nb nc od S sh ad V) (ht : t + 1 ≤ 100000) (hcs : cells + 16 ≤ room_1.cells ∧ slots + 360 ≤ room_1.slots) {g x : Int32} {kd : Nat} (s18 : sh 18 = some (fun f => .inl (cI, 64, .inl f))) (hkd : kd < 13) (w18 : V 18 = tellR V nb nc) (hl : lv_has ls 10 [(0, .ref b), (1, .ref (ad 0)), (2, .ref (ad 16)), (3, .ref (ad 17)), (4, .int (nI ei)), (5, .int g), (6, .int x), (7, .int (nI kd))])
    (cont : ∀ (t2 nb2 nc2 : Nat) (od2 S2 : Nat → Nat) (sh2 : xS) (ad2 : Nat → Nat) (V2 : xV) (H : Heap) (locs : List Loc) (ls : Array Slot), t2 ≤ t + 1 → LwS cI cZ cO tys e0 t2 nb2 nc2 od2 S2 sh2 ad2 V2 → xB p s m args meth c cL_law 10 (some .boolean) wsL_law RL D sh2 ad2 A tys → xG D sh2 ad2 A s.heap V2 H locs → lv_has ls 10 [(0, .ref b), (1, .ref (ad2 0)), (2, .ref (ad2 16)), (3, .ref (ad2 17)), (4, .int (nI ei)), (5, .int g), (6, .int x)] → W p l e room_1 s m args below meth c H locs (cells + 16) (slots + 360) Q (F0 m 158 ls [])) : W p l e room_1 s m args below meth c H locs (cells) (slots) Q (F0 m 95 ls [.ref (ad 18)]) := by
  have hx := B.1.1
  have hb := B.1.2.1
  obtain ⟨DW, hI, s16, s17, h16, h17⟩ := id hL
  have DL := DW.dl
  have Dl := DL.1
  have hT0 := DL.2.2.2.2.2.2.1.1
  have h40 := hI.1.2.2
  refine lv_astore (lv' := [(8, .ref (ad 18)), (0, .ref b), (1, .ref (ad 0)), (2, .ref (ad 16)), (3, .ref (ad 17)), (4, .int (nI ei)), (5, .int g), (6, .int x), (7, .int (nI kd))]) hx hb dL_law_95 hl (by decide) rfl (fun ls hl => ?_)
  refine lv_aload_n hx hb dL_law_97 rfl (lv_at hl 2 rfl) ?_
  refine lv_iload hx hb dL_law_98 (lv_at hl 8 rfl) ?_
  refine lv_iload hx hb dL_law_100 (lv_at hl 7 rfl) ?_
  refine lv_aload_n hx hb dL_law_102 rfl (lv_at hl 3 rfl) ?_
  refine lv_aload_n hx hb dL_law_103 rfl (lv_at hl 4 rfl) ?_
  refine x_callSl (rest := []) B E F hN G (c_L_act l hst V hL (by omega) kd hkd x) (va_cwS 5 B.1.2.2.2.2 gL_law_L_act rfl rfl rfl (by decide +kernel) ⟨Nat.le_of_ble_eq_true rfl, Nat.le_of_ble_eq_true rfl⟩) rfl hl.1 rfl (Nat.le_of_ble_eq_true rfl) ⟨by show cells + 8 ≤ _; omega, by show slots + 180 ≤ _; omega⟩ dL_law_104 (fun v sh9 ad9 V9 H locs hR B9 G9 => ?_)
  obtain ⟨r, hv9, hR9⟩ := hR
  subst hv9
  refine W.eq (g2 := F0 m 107 ls [.int r]) rfl ?_
  rcases hR9 with ⟨hr, h91, h92, h93⟩ | ⟨nb9, nc9, od9, S9, hL9, ⟨e09, k16, e18⟩, hF⟩
  · rw [h91, h92, h93] at G9
    rw [h91, h92] at B9
    have B := B9
    have G := G9
    refine W.widen (k := cells + 8) (n := slots + 180) (Nat.le_refl _) (Nat.le_refl _) ?_
    refine lv_istore (lv' := [(9, .int r), (8, .ref (ad 18)), (0, .ref b), (1, .ref (ad 0)), (2, .ref (ad 16)), (3, .ref (ad 17)), (4, .int (nI ei)), (5, .int g), (6, .int x), (7, .int (nI kd))]) hx hb dL_law_107 hl (by decide) rfl (fun ls hl => ?_)
    refine lv_iload hx hb dL_law_109 (lv_at hl 0 rfl) ?_
    refine lv_iconst (v := (-1)) hx hb dL_law_111 (by decide) ?_
    refine lv_icmp_lt (tgt := 126) hx hb dL_law_112 (by decide) (fun c_112 => ?_) (fun c_112 => ?_)
    · skip
      refine lv_aload hx hb dL_law_126 (lv_at hl 1 rfl) ?_
      refine lv_aload_n hx hb dL_law_128 rfl (lv_at hl 3 rfl) ?_
      refine x_callSl (rest := [.ref (ad 18)]) B E F hN G (c_L_tell l DW V hI (i := 19) (Or.inr rfl)) (va_cwS 1 B.1.2.2.2.2 gL_law_L_tell rfl rfl rfl (by decide +kernel) ⟨Nat.le_of_ble_eq_true rfl, Nat.le_of_ble_eq_true rfl⟩) rfl hl.1 rfl (Nat.le_of_ble_eq_true rfl) ⟨by show cells + 8 + 1 ≤ _; omega, by show slots + 180 + 64 ≤ _; omega⟩ dL_law_129 (fun v sh9 ad9 V9 H locs hR B9 G9 => ?_)
      obtain ⟨q, hv9, z91, z92, hT9, hr9⟩ := hR
      subst hv9
      have a18 : ad9 18 = ad 18 := by rw [z92]; exact aU_n _ _ (by decide)
      have a19 : ad9 19 = q := by rw [z92]; exact aU_s _ _ _
      have k18 : sh9 18 = some (fun f => .inl (cI, 64, .inl f)) := by rw [z91, sU_n _ _ (by decide)]; exact s18
      have k19 : sh9 19 = some (fun f => .inl (cI, 64, .inl f)) := by rw [z91]; exact sU_s _ _ _
      refine W.eq (g2 := F0 m 132 ls [.ref (ad9 19), .ref (ad9 18)]) (by rw [a18, a19]; rfl) ?_
      have hL9 := hL.tell (Or.inr rfl) z91 z92 hT9 B9.2.2.2.2.1
      have ka : ∀ j, j ≠ 19 → ad9 j = ad j := fun j hj => by rw [z92]; exact aU_n _ _ hj
      have hl := lv_sub (l' := [(0, .ref b), (1, .ref (ad 0)), (2, .ref (ad 16)), (3, .ref (ad 17)), (4, .int (nI ei)), (5, .int g), (6, .int x)]) hl [2, 3, 4, 5, 6, 7, 8] rfl
      have hl : lv_has ls 10 [(0, .ref b), (1, .ref (ad9 0)), (2, .ref (ad9 16)), (3, .ref (ad9 17)), (4, .int (nI ei)), (5, .int g), (6, .int x)] := lv_cast hl (by rw [ka 0 (by decide), ka 16 (by decide), ka 17 (by decide)])
      refine W.widen (k := cells + 9) (n := slots + 244) (Nat.le_refl _) (Nat.le_refl _) ?_
      refine x_callSi (rest := []) B9 G9 (c_L_same l V9 hT0 B9.2.2.2.2.1 k18 k19 (fun k hk => by rw [hT9 18 (by decide) (by decide) (by decide), w18, hr9])) (va_cwS 2 B9.1.2.2.2.2 gL_law_L_same rfl rfl rfl (by decide +kernel) ⟨Nat.le_of_ble_eq_true rfl, Nat.le_of_ble_eq_true rfl⟩) rfl hl.1 rfl (Nat.le_of_ble_eq_true rfl) ⟨by omega, by omega⟩ dL_law_132 (fun H locs G9 => ?_)
      refine lv_if_ne (tgt := 158) hx hb dL_law_135 (by decide) (fun c_135 => ?_) (fun c_135 => ?_)
      · skip
        refine W.widen (k := cells + 16) (n := slots + 360) (by omega) (by omega) ?_
        exact cont t nb nc od S sh9 ad9 V9 H locs ls (by omega) hL9 B9 G9 hl
      · exact False.elim (absurd c_135 (by decide))
    · exact False.elim (c_112 hr)
  · skip
    have hl := lv_sub (l' := [(0, .ref b), (1, .ref (ad 0)), (2, .ref (ad 16)), (3, .ref (ad 17)), (4, .int (nI ei)), (5, .int g), (6, .int x), (7, .int (nI kd)), (8, .ref (ad 18))]) hl [1, 2, 3, 4, 5, 6, 7, 8, 0] rfl
    have hl : lv_has ls 10 [(0, .ref b), (1, .ref (ad9 0)), (2, .ref (ad9 16)), (3, .ref (ad9 17)), (4, .int (nI ei)), (5, .int g), (6, .int x), (7, .int (nI kd)), (8, .ref (ad9 18))] := lv_cast hl (by rw [e09, (k16 16 (by decide) (by decide)).2, (k16 17 (by decide) (by decide)).2, (k16 18 (by decide) (by decide)).2])
    have w9 := tellR_0 V nb nc
    refine W.widen (k := cells + 8) (n := slots + 180) (Nat.le_refl _) (Nat.le_refl _) ?_
    refine law_s4 hst E F hN B9 G9 hL9 (by omega) ⟨by omega, by omega⟩ ((k16 18 (by decide) (by decide)).1.trans s18) h40 (V0 := V) (by rw [e18, w18]; exact w9.1) (by rw [e18, w18]; exact w9.2) hkd hF hl (fun H locs ls G hl => ?_)
    refine W.widen (k := cells + 16) (n := slots + 360) (by omega) (by omega) ?_
    exact cont (t + 1) nb9 nc9 od9 S9 sh9 ad9 V9 H locs ls (by omega) hL9 B9 G hl
set_option maxHeartbeats 4000000 in
set_option maxRecDepth 100000 in
theorem law_s2 {p : Program} {l : Launch} (hst : l.stackTraces = false) {e : Env} {s : State} {m : MethodId} {args : Array Value} {below : List Frame} {meth : Method} {c : Code} {A : Nat → Prop} {D : va_G} {cI cZ cO : ClassId} {tys : List (ClassId × FieldType)} {mi e0 : Nat} {sa : Nat → Nat} {b ei : Nat} {Q : State → Prop} (E : xE mi e0 A s s.heap) (F : xF sa A s s.heap) (hN : xN s) {t nb nc : Nat} {od S : Nat → Nat} {sh : xS} {ad : Nat → Nat} {V : xV} {H : Heap} {locs : List Loc} {ls : Array Slot} {cells slots : Nat} (B : xB p s m args meth c cL_law 10 (some .boolean) wsL_law RL D sh ad A tys) (G : xG D sh ad A s.heap V H locs) (hL : LwS cI cZ cO tys e0 t nb nc od S sh ad V) (ht : t + 1 ≤ 100000) (hcs : cells + 17 ≤ room_1.cells ∧ slots + 424 ≤ room_1.slots) {g x : Int32} {kd : Nat} (hkd : kd < 13) (hl : lv_has ls 10 [(0, .ref b), (1, .ref (ad 0)), (2, .ref (ad 16)), (3, .ref (ad 17)), (4, .int (nI ei)), (5, .int g), (6, .int x)])
    (cont : ∀ (t2 nb2 nc2 : Nat) (od2 S2 : Nat → Nat) (sh2 : xS) (ad2 : Nat → Nat) (V2 : xV) (H : Heap) (locs : List Loc) (ls : Array Slot), t2 ≤ t + 1 → LwS cI cZ cO tys e0 t2 nb2 nc2 od2 S2 sh2 ad2 V2 → xB p s m args meth c cL_law 10 (some .boolean) wsL_law RL D sh2 ad2 A tys → xG D sh2 ad2 A s.heap V2 H locs → lv_has ls 10 [(0, .ref b), (1, .ref (ad2 0)), (2, .ref (ad2 16)), (3, .ref (ad2 17)), (4, .int (nI ei)), (5, .int g), (6, .int x)] → W p l e room_1 s m args below meth c H locs (cells + 17) (slots + 424) Q (F0 m 158 ls [])) : W p l e room_1 s m args below meth c H locs (cells) (slots) Q (F0 m 89 ls [.int (nI kd)]) := by
  have hx := B.1.1
  have hb := B.1.2.1
  obtain ⟨DW, hI, s16, s17, h16, h17⟩ := id hL
  refine lv_istore (lv' := [(7, .int (nI kd)), (0, .ref b), (1, .ref (ad 0)), (2, .ref (ad 16)), (3, .ref (ad 17)), (4, .int (nI ei)), (5, .int g), (6, .int x)]) hx hb dL_law_89 hl (by decide) rfl (fun ls hl => ?_)
  refine lv_aload_n hx hb dL_law_91 rfl (lv_at hl 2 rfl) ?_
  refine x_callSl (rest := []) B E F hN G (c_L_tell l DW V hI (i := 18) (Or.inl rfl)) (va_cwS 1 B.1.2.2.2.2 gL_law_L_tell rfl rfl rfl (by decide +kernel) ⟨Nat.le_of_ble_eq_true rfl, Nat.le_of_ble_eq_true rfl⟩) rfl hl.1 rfl (Nat.le_of_ble_eq_true rfl) ⟨by show cells + 1 ≤ _; omega, by show slots + 64 ≤ _; omega⟩ dL_law_92 (fun v sh9 ad9 V9 H locs hR B9 G9 => ?_)
  obtain ⟨q, hv9, z91, z92, hT9, hr9⟩ := hR
  subst hv9
  have a18 : ad9 18 = q := by rw [z92]; exact aU_s _ _ _
  have k18 : sh9 18 = some (fun f => .inl (cI, 64, .inl f)) := by rw [z91]; exact sU_s _ _ _
  have ka : ∀ j, j ≠ 18 → ad9 j = ad j := fun j hj => by rw [z92]; exact aU_n _ _ hj
  refine W.eq (g2 := F0 m 95 ls [.ref (ad9 18)]) (by rw [a18]; rfl) ?_
  have hL9 := hL.tell (Or.inl rfl) z91 z92 hT9 B9.2.2.2.2.1
  have w18 : V9 18 = tellR V9 nb nc := hr9.trans (tellR_ts (hT9.ts (Or.inr (Or.inl rfl))) hI).symm
  have hl := lv_sub (l' := [(0, .ref b), (1, .ref (ad 0)), (2, .ref (ad 16)), (3, .ref (ad 17)), (4, .int (nI ei)), (5, .int g), (6, .int x), (7, .int (nI kd))]) hl [1, 2, 3, 4, 5, 6, 7, 0] rfl
  have hl : lv_has ls 10 [(0, .ref b), (1, .ref (ad9 0)), (2, .ref (ad9 16)), (3, .ref (ad9 17)), (4, .int (nI ei)), (5, .int g), (6, .int x), (7, .int (nI kd))] := lv_cast hl (by rw [ka 0 (by decide), ka 16 (by decide), ka 17 (by decide)])
  refine W.widen (k := cells + 1) (n := slots + 64) (Nat.le_refl _) (Nat.le_refl _) ?_
  exact law_s3 hst E F hN B9 G9 hL9 ht ⟨by omega, by omega⟩ k18 hkd w18 hl (fun t2 nb2 nc2 od2 S2 sh2 ad2 V2 H locs ls h1 h2 h3 h4 h5 => W.widen (k := cells + 17) (n := slots + 424) (by omega) (by omega) (cont t2 nb2 nc2 od2 S2 sh2 ad2 V2 H locs ls h1 h2 h3 h4 h5))
set_option maxHeartbeats 4000000 in
set_option maxRecDepth 100000 in
theorem law_s1 {p : Program} {l : Launch} (hst : l.stackTraces = false) {e : Env} {s : State} {m : MethodId} {args : Array Value} {below : List Frame} {meth : Method} {c : Code} {A : Nat → Prop} {D : va_G} {cI cZ cO : ClassId} {tys : List (ClassId × FieldType)} {mi e0 : Nat} {sa : Nat → Nat} {b ei : Nat} {Q : State → Prop} (E : xE mi e0 A s s.heap) (F : xF sa A s s.heap) (hN : xN s) {t nb nc : Nat} {od S : Nat → Nat} {sh : xS} {ad : Nat → Nat} {V : xV} {H : Heap} {locs : List Loc} {ls : Array Slot} {cells slots : Nat} {L : Nat} {xs : Nat → Int32} (hX : va_X b L xs s s.heap) (hbl : b < s.heap.size) (hbA : ¬ A b) (hLL : L ≤ 260) (hei : ei < 34) (B : xB p s m args meth c cL_law 10 (some .boolean) wsL_law RL D sh ad A tys) (G : xG D sh ad A s.heap V H locs) (hL : LwS cI cZ cO tys e0 t nb nc od S sh ad V) (hcs : cells ≤ room_1.cells ∧ slots ≤ room_1.slots) (hl : lv_has ls 10 [(0, .ref b), (1, .ref (ad 0)), (2, .ref (ad 16)), (3, .ref (ad 17)), (4, .int (nI ei))])
    (cont : ∀ (kd : Nat) (H : Heap) (locs : List Loc) (ls : Array Slot), kd < 13 → xG D sh ad A s.heap V H locs → lv_has ls 10 [(0, .ref b), (1, .ref (ad 0)), (2, .ref (ad 16)), (3, .ref (ad 17)), (4, .int (nI ei)), (5, .int (cellQ L xs (2 * ei))), (6, .int (cellQ L xs (2 * ei + 1)))] → W p l e room_1 s m args below meth c H locs (cells) (slots) Q (F0 m 89 ls [.int (nI kd)])) : W p l e room_1 s m args below meth c H locs (cells) (slots) Q (F0 m 49 ls []) := by
  have hx := B.1.1
  have hb := B.1.2.1
  obtain ⟨DW, hI, s16, s17, h16, h17⟩ := id hL
  have DL := DW.dl
  have Dl := DL.1
  have hT0 := DL.2.2.2.2.2.2.1.1
  have h40 := hI.1.2.2
  refine lv_aload_n hx hb dL_law_49 rfl (lv_at hl 0 rfl) ?_
  refine lv_iconst (v := 2) hx hb dL_law_50 (by decide) ?_
  refine lv_iload hx hb dL_law_51 (lv_at hl 4 rfl) ?_
  refine lv_imul hx hb dL_law_53 ?_
  refine x_top (show 2 * (nI ei) = nI (2 * ei) from pk_mul 2 ei) ?_
  refine x_callCell (rest := []) B G hX hbl hbA (show 2 * ei < 2 ^ 31 by omega) (by omega) (va_cwS 2 B.1.2.2.2.2 gL_law_L_cell rfl rfl rfl (by decide +kernel) ⟨Nat.le_of_ble_eq_true rfl, Nat.le_of_ble_eq_true rfl⟩) hl.1 (Nat.le_of_ble_eq_true rfl) ⟨by omega, by omega⟩ dL_law_54 (fun H locs G => ?_)
  refine lv_istore (lv' := [(5, .int (cellQ L xs (2 * ei))), (0, .ref b), (1, .ref (ad 0)), (2, .ref (ad 16)), (3, .ref (ad 17)), (4, .int (nI ei))]) hx hb dL_law_57 hl (by decide) rfl (fun ls hl => ?_)
  refine lv_aload_n hx hb dL_law_59 rfl (lv_at hl 1 rfl) ?_
  refine lv_iconst (v := 2) hx hb dL_law_60 (by decide) ?_
  refine lv_iload hx hb dL_law_61 (lv_at hl 5 rfl) ?_
  refine lv_imul hx hb dL_law_63 ?_
  refine x_top (show 2 * (nI ei) = nI (2 * ei) from pk_mul 2 ei) ?_
  refine lv_iconst (v := 1) hx hb dL_law_64 (by decide) ?_
  refine lv_iadd hx hb dL_law_65 ?_
  refine x_top (show (nI (2 * ei)) + 1 = nI ((2 * ei) + 1) from nI_add (2 * ei) 1) ?_
  refine x_callCell (rest := []) B G hX hbl hbA (show (2 * ei) + 1 < 2 ^ 31 by omega) (by omega) (va_cwS 2 B.1.2.2.2.2 gL_law_L_cell rfl rfl rfl (by decide +kernel) ⟨Nat.le_of_ble_eq_true rfl, Nat.le_of_ble_eq_true rfl⟩) hl.1 (Nat.le_of_ble_eq_true rfl) ⟨by omega, by omega⟩ dL_law_66 (fun H locs G => ?_)
  refine lv_istore (lv' := [(6, .int (cellQ L xs ((2 * ei) + 1))), (5, .int (cellQ L xs (2 * ei))), (0, .ref b), (1, .ref (ad 0)), (2, .ref (ad 16)), (3, .ref (ad 17)), (4, .int (nI ei))]) hx hb dL_law_69 hl (by decide) rfl (fun ls hl => ?_)
  refine lv_iload hx hb dL_law_71 (lv_at hl 6 rfl) ?_
  refine lv_if_ne (tgt := 80) hx hb dL_law_73 (by decide) (fun c_73 => ?_) (fun c_73 => ?_)
  · skip
    have c_73 : ¬ (ei = 0) := fun h9 => c_73 ((nI_eq (a := ei) (b := 0) (by omega) (by omega)).mpr h9)
    refine lv_iload hx hb dL_law_80 (lv_at hl 1 rfl) ?_
    refine lv_iconst (v := 3) hx hb dL_law_82 (by decide) ?_
    refine lv_ishr hx hb dL_law_83 ?_
    refine lv_bipush (v := 13) hx hb dL_law_84 (by decide) ?_
    refine x_callSi (rest := []) B G (c_L_low l B.2.2.2.2.1 V ((cellQ L xs (2 * ei)) >>> ((3 : Int32) &&& 31)) 13 (by decide) (by decide)) (va_cwS 2 B.1.2.2.2.2 gL_law_L_low rfl rfl rfl (by decide +kernel) ⟨Nat.le_of_ble_eq_true rfl, Nat.le_of_ble_eq_true rfl⟩) rfl hl.1 rfl (Nat.le_of_ble_eq_true rfl) ⟨by show cells ≤ _; omega, by show slots ≤ _; omega⟩ dL_law_86 (fun H locs G => ?_)
    have hl := lv_sub (l' := [(0, .ref b), (1, .ref (ad 0)), (2, .ref (ad 16)), (3, .ref (ad 17)), (4, .int (nI ei)), (5, .int (cellQ L xs (2 * ei))), (6, .int (cellQ L xs (2 * ei + 1)))]) hl [2, 3, 4, 5, 6, 1, 0] rfl
    exact cont (lowN ((cellQ L xs (2 * ei)) >>> ((3 : Int32) &&& 31)) % 13) H locs ls (Nat.mod_lt _ (by decide)) G hl
  · skip
    have c_73 : ei = 0 := (nI_eq (a := ei) (b := 0) (by omega) (by omega)).mp c_73
    refine lv_iconst (v := 0) hx hb dL_law_76 (by decide) ?_
    refine lv_goto (tgt := 89) hx hb dL_law_77 (by decide) ?_
    have hl := lv_sub (l' := [(0, .ref b), (1, .ref (ad 0)), (2, .ref (ad 16)), (3, .ref (ad 17)), (4, .int (nI ei)), (5, .int (cellQ L xs (2 * ei))), (6, .int (cellQ L xs (2 * ei + 1)))]) hl [2, 3, 4, 5, 6, 1, 0] rfl
    exact cont (0) H locs ls (by decide) G hl
set_option maxHeartbeats 4000000 in
set_option maxRecDepth 100000 in
/-- THE LOOP -/
theorem law_loop {p : Program} {l : Launch} (hst : l.stackTraces = false) {e : Env} {s : State} {m : MethodId} {args : Array Value} {below : List Frame} {meth : Method} {c : Code} {A : Nat → Prop} {D : va_G} {cI cZ cO : ClassId} {tys : List (ClassId × FieldType)} {mi e0 : Nat} {sa : Nat → Nat} {b : Nat} {Q : State → Prop} (E : xE mi e0 A s s.heap) (F : xF sa A s s.heap) (hN : xN s) {L : Nat} {xs : Nat → Int32} (hX : va_X b L xs s s.heap) (hbl : b < s.heap.size) (hbA : ¬ A b) (hLL : L ≤ 260)
    (hend : ∀ (t nb nc : Nat) (od S : Nat → Nat) (sh : xS) (ad : Nat → Nat) (V : xV) (H : Heap) (locs : List Loc) (ls : Array Slot) (cells slots : Nat), cells ≤ 170000 → slots ≤ 4000000 → LwS cI cZ cO tys e0 t nb nc od S sh ad V → xB p s m args meth c cL_law 10 (some .boolean) wsL_law RL D sh ad A tys ∧ xG D sh ad A s.heap V H locs → lv_has ls 10 [(1, .ref (ad 0))] → W p l e room_1 s m args below meth c H locs (cells) (slots) Q (F0 m 223 ls [])) :
    ∀ (f ei t nb nc : Nat) (od S : Nat → Nat) (sh : xS) (ad : Nat → Nat) (V : xV) (H : Heap) (locs : List Loc) (ls : Array Slot) (cells slots : Nat), ei ≤ 34 → 34 < ei + f → t ≤ 4 * ei → cells ≤ 1000 + 4713 * ei → slots ≤ 10000 + 106084 * ei → LwS cI cZ cO tys e0 t nb nc od S sh ad V → xB p s m args meth c cL_law 10 (some .boolean) wsL_law RL D sh ad A tys → xG D sh ad A s.heap V H locs → lv_has ls 10 [(0, .ref b), (1, .ref (ad 0)), (2, .ref (ad 16)), (3, .ref (ad 17)), (4, .int (nI ei))] → W p l e room_1 s m args below meth c H locs (cells) (slots) Q (F0 m 42 ls []) := by
  intro f
  induction f with
  | zero => intro ei t nb nc od S sh ad V H locs ls cells slots h1 h2; exact absurd h2 (by omega)
  | succ f ih =>
    intro ei t nb nc od S sh ad V H locs ls cells slots h1 h2 h3 h4 h5 hL B G hl
    have hx := B.1.1
    have hb := B.1.2.1
    have rc : room_1.cells = 600086 := rfl
    have rs : room_1.slots = 7301442 := rfl
    refine lv_iload hx hb dL_law_42 (lv_at hl 4 rfl) ?_
    refine lv_bipush (v := 34) hx hb dL_law_44 (by decide) ?_
    refine lv_icmp_ge (tgt := 223) hx hb dL_law_46 (by decide) (fun c_46 => ?_) (fun c_46 => ?_)
    · have hl := lv_sub (l' := [(1, .ref (ad 0))]) hl [1] rfl
      exact hend t nb nc od S sh ad V H locs ls cells slots (by omega) (by omega) hL ⟨B, G⟩ hl
    · have c_46 : ei < 34 := Nat.lt_of_not_le (fun z => c_46 ((nI_leI (a := 34) (b := ei) (by omega) (by omega)).mpr z))
      refine law_s1 hst E F hN hX hbl hbA hLL c_46 B G hL ⟨by omega, by omega⟩ hl (fun kd H locs ls hkd G hl => ?_)
      refine law_s2 hst E F hN B G hL (by omega) ⟨by omega, by omega⟩ hkd hl (fun t2 nb nc od S sh ad V H locs ls ht2 hL B G hl => ?_)
      refine law_s5 hst E F hN B G hL (by omega) ⟨by omega, by omega⟩ hl (fun V H locs ls hL G hl => ?_)
      refine law_s6 hst E F hN B G hL (by omega) ⟨by omega, by omega⟩ hl (fun t3 V H locs ls ht3 hL G hl => ?_)
      have hx := B.1.1
      have hb := B.1.2.1
      refine lv_iinc (v := nI (ei + 1)) (lv' := [(4, .int (nI (ei + 1))), (0, .ref b), (1, .ref (ad 0)), (2, .ref (ad 16)), (3, .ref (ad 17))]) hx hb dL_law_217 hl (k := 4) rfl (nI_add ei 1) (by decide) rfl (fun ls hl => ?_)
      refine lv_goto (tgt := 42) hx hb dL_law_220 (by decide) ?_
      have hl := lv_sub (l' := [(0, .ref b), (1, .ref (ad 0)), (2, .ref (ad 16)), (3, .ref (ad 17)), (4, .int (nI (ei + 1)))]) hl [1, 2, 3, 4, 0] rfl
      exact ih (ei + 1) t3 nb nc od S sh ad V H locs ls _ _ (by omega) (by omega) (by omega) (by omega) (by omega) hL B G hl
set_option maxHeartbeats 4000000 in
set_option maxRecDepth 100000 in
theorem law_end {p : Program} {l : Launch} (hst : l.stackTraces = false) {e : Env} {s : State} {m : MethodId} {args : Array Value} {below : List Frame} {meth : Method} {c : Code} {A : Nat → Prop} {D : va_G} {cI cZ cO : ClassId} {tys : List (ClassId × FieldType)} {mi e0 : Nat} {sa : Nat → Nat} {b ei : Nat} {Q : State → Prop} (E : xE mi e0 A s s.heap) (F : xF sa A s s.heap) (hN : xN s) {t nb nc : Nat} {od S : Nat → Nat} {sh : xS} {ad : Nat → Nat} {V : xV} {H : Heap} {locs : List Loc} {ls : Array Slot} {cells slots : Nat} (B : xB p s m args meth c cL_law 10 (some .boolean) wsL_law RL D sh ad A tys) (G : xG D sh ad A s.heap V H locs) (hL : LwS cI cZ cO tys e0 t nb nc od S sh ad V) (rc : room_1.cells = 600086) (rs : room_1.slots = 7301442) (hc : cells ≤ 170000) (hs : slots ≤ 4000000) (hl : lv_has ls 10 [(1, .ref (ad 0))])
    (cont : ∀ (H : Heap) (locs : List Loc) (ls : Array Slot) (cells slots : Nat), cells ≤ 180000 → slots ≤ 5000000 → xG D sh ad A s.heap V H locs → W p l e room_1 s m args below meth c H locs (cells) (slots) Q (F0 m 325 ls [.int 1])) : W p l e room_1 s m args below meth c H locs (cells) (slots) Q (F0 m 223 ls []) := by
  have hx := B.1.1
  have hb := B.1.2.1
  obtain ⟨DW, hI, s16, s17, h16, h17⟩ := id hL
  have DL := DW.dl
  have Dl := DL.1
  have hT0 := DL.2.2.2.2.2.2.1.1
  have h40 := hI.1.2.2
  refine lv_aload_n hx hb dL_law_223 rfl (lv_at hl 0 rfl) ?_
  refine lv_iconst (v := 0) hx hb dL_law_224 (by decide) ?_
  refine lv_iconst (v := 0) hx hb dL_law_225 (by decide) ?_
  refine lv_iconst (v := 1) hx hb dL_law_226 (by decide) ?_
  refine x_callSw (rest := []) B E F hN G (w_meet_bad2 l hst DW V hI.1.1 hI.1.2.1 0 0 1 (by decide) (by decide) (by decide)) (vx_cwSW 4 B.1.2.2.2.2 gL_law_L_meet rfl rfl rfl (by decide +kernel) ⟨Nat.le_of_ble_eq_true rfl, Nat.le_of_ble_eq_true rfl⟩) rfl hl.1 rfl (Nat.le_of_ble_eq_true rfl) ⟨by show cells + 8 ≤ _; omega, by show slots + 180 ≤ _; omega⟩ dL_law_227 (fun v sh9 ad9 V9 H locs hR B G => ?_)
  obtain ⟨hv9, h91, h92, h93⟩ := hR
  rw [h91, h92, h93] at G
  rw [h91, h92] at B
  subst hv9
  refine W.eq (g2 := F0 m 230 ls [.int (-3)]) rfl ?_
  refine lv_bipush (v := (-3)) hx hb dL_law_230 (by decide) ?_
  refine lv_icmp_ne (tgt := 324) hx hb dL_law_232 (by decide) (fun c_232 => ?_) (fun c_232 => ?_)
  · exact False.elim (c_232 rfl)
  · skip
    refine lv_aload_n hx hb dL_law_235 rfl (lv_at hl 0 rfl) ?_
    refine lv_bipush (v := 8) hx hb dL_law_236 (by decide) ?_
    refine lv_bipush (v := 8) hx hb dL_law_238 (by decide) ?_
    refine lv_bipush (v := 99) hx hb dL_law_240 (by decide) ?_
    refine x_callSw (rest := []) B E F hN G (w_meet_bad1 l hst DW V hI.1.1 hI.1.2.1 8 8 99 (by decide)) (vx_cwSW 4 B.1.2.2.2.2 gL_law_L_meet rfl rfl rfl (by decide +kernel) ⟨Nat.le_of_ble_eq_true rfl, Nat.le_of_ble_eq_true rfl⟩) rfl hl.1 rfl (Nat.le_of_ble_eq_true rfl) ⟨by show cells + 8 + 8 ≤ _; omega, by show slots + 180 + 180 ≤ _; omega⟩ dL_law_242 (fun v sh9 ad9 V9 H locs hR B G => ?_)
    obtain ⟨hv9, h91, h92, h93⟩ := hR
    rw [h91, h92, h93] at G
    rw [h91, h92] at B
    subst hv9
    refine W.eq (g2 := F0 m 245 ls [.int (-2)]) rfl ?_
    refine lv_bipush (v := (-2)) hx hb dL_law_245 (by decide) ?_
    refine lv_icmp_ne (tgt := 324) hx hb dL_law_247 (by decide) (fun c_247 => ?_) (fun c_247 => ?_)
    · exact False.elim (c_247 rfl)
    · skip
      refine lv_aload_n hx hb dL_law_250 rfl (lv_at hl 0 rfl) ?_
      refine lv_iconst (v := 0) hx hb dL_law_251 (by decide) ?_
      refine lv_iconst (v := 1) hx hb dL_law_252 (by decide) ?_
      refine lv_bipush (v := 21) hx hb dL_law_253 (by decide) ?_
      refine x_callSw (rest := []) B E F hN G (w_meet_bad2 l hst DW V hI.1.1 hI.1.2.1 0 1 21 (by decide) (by decide) (by decide)) (vx_cwSW 4 B.1.2.2.2.2 gL_law_L_meet rfl rfl rfl (by decide +kernel) ⟨Nat.le_of_ble_eq_true rfl, Nat.le_of_ble_eq_true rfl⟩) rfl hl.1 rfl (Nat.le_of_ble_eq_true rfl) ⟨by show cells + 8 + 8 + 8 ≤ _; omega, by show slots + 180 + 180 + 180 ≤ _; omega⟩ dL_law_255 (fun v sh9 ad9 V9 H locs hR B G => ?_)
      obtain ⟨hv9, h91, h92, h93⟩ := hR
      rw [h91, h92, h93] at G
      rw [h91, h92] at B
      subst hv9
      refine W.eq (g2 := F0 m 258 ls [.int (-3)]) rfl ?_
      refine lv_bipush (v := (-3)) hx hb dL_law_258 (by decide) ?_
      refine lv_icmp_ne (tgt := 324) hx hb dL_law_260 (by decide) (fun c_260 => ?_) (fun c_260 => ?_)
      · exact False.elim (c_260 rfl)
      · skip
        refine lv_aload_n hx hb dL_law_263 rfl (lv_at hl 0 rfl) ?_
        refine lv_iconst (v := 0) hx hb dL_law_264 (by decide) ?_
        refine x_callSw (rest := []) B E F hN G (w_pass_bad l hst DW V hI.1.1 hI.1.2.1 0 (by decide)) (vx_cwSW 2 B.1.2.2.2.2 gL_law_L_pass rfl rfl rfl (by decide +kernel) ⟨Nat.le_of_ble_eq_true rfl, Nat.le_of_ble_eq_true rfl⟩) rfl hl.1 rfl (Nat.le_of_ble_eq_true rfl) ⟨by show cells + 8 + 8 + 8 + 8 ≤ _; omega, by show slots + 180 + 180 + 180 + 180 ≤ _; omega⟩ dL_law_265 (fun v sh9 ad9 V9 H locs hR B G => ?_)
        obtain ⟨hv9, h91, h92, h93⟩ := hR
        rw [h91, h92, h93] at G
        rw [h91, h92] at B
        subst hv9
        refine W.eq (g2 := F0 m 268 ls [.int (-3)]) rfl ?_
        refine lv_bipush (v := (-3)) hx hb dL_law_268 (by decide) ?_
        refine lv_icmp_ne (tgt := 324) hx hb dL_law_270 (by decide) (fun c_270 => ?_) (fun c_270 => ?_)
        · exact False.elim (c_270 rfl)
        · skip
          refine lv_aload_n hx hb dL_law_273 rfl (lv_at hl 0 rfl) ?_
          refine lv_sipush (v := 10001) hx hb dL_law_274 (by decide) ?_
          refine x_callSw (rest := []) B E F hN G (w_pass_bad l hst DW V hI.1.1 hI.1.2.1 10001 (by decide)) (vx_cwSW 2 B.1.2.2.2.2 gL_law_L_pass rfl rfl rfl (by decide +kernel) ⟨Nat.le_of_ble_eq_true rfl, Nat.le_of_ble_eq_true rfl⟩) rfl hl.1 rfl (Nat.le_of_ble_eq_true rfl) ⟨by show cells + 8 + 8 + 8 + 8 + 8 ≤ _; omega, by show slots + 180 + 180 + 180 + 180 + 180 ≤ _; omega⟩ dL_law_277 (fun v sh9 ad9 V9 H locs hR B G => ?_)
          obtain ⟨hv9, h91, h92, h93⟩ := hR
          rw [h91, h92, h93] at G
          rw [h91, h92] at B
          subst hv9
          refine W.eq (g2 := F0 m 280 ls [.int (-3)]) rfl ?_
          refine lv_bipush (v := (-3)) hx hb dL_law_280 (by decide) ?_
          refine lv_icmp_ne (tgt := 324) hx hb dL_law_282 (by decide) (fun c_282 => ?_) (fun c_282 => ?_)
          · exact False.elim (c_282 rfl)
          · skip
            refine lv_aload_n hx hb dL_law_285 rfl (lv_at hl 0 rfl) ?_
            refine lv_bipush (v := 8) hx hb dL_law_286 (by decide) ?_
            refine lv_iconst (v := 0) hx hb dL_law_288 (by decide) ?_
            refine x_callSw (rest := []) B E F hN G (w_buffer_bad1 l hst DW V hI.1.1 hI.1.2.1 8 0 (by decide)) (vx_cwSW 3 B.1.2.2.2.2 gL_law_L_buffer rfl rfl rfl (by decide +kernel) ⟨Nat.le_of_ble_eq_true rfl, Nat.le_of_ble_eq_true rfl⟩) rfl hl.1 rfl (Nat.le_of_ble_eq_true rfl) ⟨by show cells + 8 + 8 + 8 + 8 + 8 + 8 ≤ _; omega, by show slots + 180 + 180 + 180 + 180 + 180 + 180 ≤ _; omega⟩ dL_law_289 (fun v sh9 ad9 V9 H locs hR B G => ?_)
            obtain ⟨hv9, h91, h92, h93⟩ := hR
            rw [h91, h92, h93] at G
            rw [h91, h92] at B
            subst hv9
            refine W.eq (g2 := F0 m 292 ls [.int (-2)]) rfl ?_
            refine lv_bipush (v := (-2)) hx hb dL_law_292 (by decide) ?_
            refine lv_icmp_ne (tgt := 324) hx hb dL_law_294 (by decide) (fun c_294 => ?_) (fun c_294 => ?_)
            · exact False.elim (c_294 rfl)
            · skip
              refine lv_aload_n hx hb dL_law_297 rfl (lv_at hl 0 rfl) ?_
              refine lv_iconst (v := 1) hx hb dL_law_298 (by decide) ?_
              refine lv_iconst (v := 1) hx hb dL_law_299 (by decide) ?_
              refine lv_iconst (v := 0) hx hb dL_law_300 (by decide) ?_
              refine lv_iconst (v := 0) hx hb dL_law_301 (by decide) ?_
              refine x_callSw (rest := []) B E F hN G (w_contact_bad2 l hst DW V hI.1.1 hI.1.2.1 1 1 0 0 (by decide) (by decide) (by decide)) (vx_cwSW 5 B.1.2.2.2.2 gL_law_L_contact rfl rfl rfl (by decide +kernel) ⟨Nat.le_of_ble_eq_true rfl, Nat.le_of_ble_eq_true rfl⟩) rfl hl.1 rfl (Nat.le_of_ble_eq_true rfl) ⟨by show cells + 8 + 8 + 8 + 8 + 8 + 8 + 8 ≤ _; omega, by show slots + 180 + 180 + 180 + 180 + 180 + 180 + 180 ≤ _; omega⟩ dL_law_302 (fun v sh9 ad9 V9 H locs hR B G => ?_)
              obtain ⟨hv9, h91, h92, h93⟩ := hR
              rw [h91, h92, h93] at G
              rw [h91, h92] at B
              subst hv9
              refine W.eq (g2 := F0 m 305 ls [.int (-3)]) rfl ?_
              refine lv_bipush (v := (-3)) hx hb dL_law_305 (by decide) ?_
              refine lv_icmp_ne (tgt := 324) hx hb dL_law_307 (by decide) (fun c_307 => ?_) (fun c_307 => ?_)
              · exact False.elim (c_307 rfl)
              · skip
                refine lv_aload_n hx hb dL_law_310 rfl (lv_at hl 0 rfl) ?_
                refine lv_iconst (v := (-1)) hx hb dL_law_311 (by decide) ?_
                refine x_callSw (rest := []) B E F hN G (w_end_bad l hst DW V hI.1.1 hI.1.2.1 (-1) (fun z => absurd z.1 (by decide))) (vx_cwSW 2 B.1.2.2.2.2 gL_law_L_end rfl rfl rfl (by decide +kernel) ⟨Nat.le_of_ble_eq_true rfl, Nat.le_of_ble_eq_true rfl⟩) rfl hl.1 rfl (Nat.le_of_ble_eq_true rfl) ⟨by show cells + 8 + 8 + 8 + 8 + 8 + 8 + 8 + 8 ≤ _; omega, by show slots + 180 + 180 + 180 + 180 + 180 + 180 + 180 + 180 ≤ _; omega⟩ dL_law_312 (fun v sh9 ad9 V9 H locs hR B G => ?_)
                obtain ⟨hv9, h91, h92, h93⟩ := hR
                rw [h91, h92, h93] at G
                rw [h91, h92] at B
                subst hv9
                refine W.eq (g2 := F0 m 315 ls [.int (-2)]) rfl ?_
                refine lv_bipush (v := (-2)) hx hb dL_law_315 (by decide) ?_
                refine lv_icmp_ne (tgt := 324) hx hb dL_law_317 (by decide) (fun c_317 => ?_) (fun c_317 => ?_)
                · exact False.elim (c_317 rfl)
                · skip
                  refine lv_iconst (v := 1) hx hb dL_law_320 (by decide) ?_
                  refine lv_goto (tgt := 325) hx hb dL_law_321 (by decide) ?_
                  exact cont H locs ls (cells + 8 + 8 + 8 + 8 + 8 + 8 + 8 + 8) (slots + 180 + 180 + 180 + 180 + 180 + 180 + 180 + 180) (by omega) (by omega) G
