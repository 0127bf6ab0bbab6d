/-! THE LAW: one turn of its loop, piece by piece, from the last to the first -/
theorem LwS.ti {cI cZ cO : ClassId} {tys : List (ClassId × FieldType)} {e0 t nb nc : Nat} {od S : Nat → Nat} {sh : xS} {ad : Nat → Nat} {V V' : xV} (h : LwS cI cZ cO tys e0 t nb nc od S sh ad V) (hT : TI 13 V V') : LwS cI cZ cO tys e0 t nb nc od S sh ad V' :=
  h.same (h.2.1.sc (fun i hi => hT i (by omega) (by omega) (by omega))) (hT 16 (by decide) (by decide) (by decide)) (hT 17 (by decide) (by decide) (by decide)) (hT 1 (by decide) (by decide) (by decide))
theorem LF.pos {kd : Nat} {x : Int32} {nb nb' : Nat} {V V' : xV} {r : Int32} (h : LF kd x nb nb' V V' r) (hb : nb ≤ 40) : ∃ q, q ≤ 40 ∧ r = nI q := by
  rcases h with q | q | q | q | q
  · exact ⟨nb, hb, q.2.1⟩
  · obtain ⟨-, -, -, z, z1, z2⟩ := q
    exact ⟨z, by omega, z2⟩
  · obtain ⟨-, -, -, z, z1, z2⟩ := q
    exact ⟨z, by omega, z2⟩
  · obtain ⟨-, z, z1, z2, z3⟩ := q
    exact ⟨z, by omega, z3⟩
  · obtain ⟨-, z, z1, z2, z3⟩ := q
    exact ⟨z, by omega, z3⟩
set_option maxHeartbeats 4000000 in
set_option maxRecDepth 100000 in
theorem law_s6 {p : Program} {l : Launch} (hst : l.stackTraces = false) {e : Env} {s : State} {m : MethodId} {args : Array Value} {below : List Frame} {meth : Method} {c : Code} {A : Nat → Prop} {D : va_G} {cI cZ cO : ClassId} {tys : List (ClassId × FieldType)} {mi e0 : Nat} {sa : Nat → Nat} {b ei : Nat} {Q : State → Prop} (E : xE mi e0 A s s.heap) (F : xF sa A s s.heap) (hN : xN s) {t nb nc : Nat} {od S : Nat → Nat} {sh : xS} {ad : Nat → Nat} {V : xV} {H : Heap} {locs : List Loc} {ls : Array Slot} {cells slots : Nat} (B : xB p s m args meth c cL_law 10 (some .boolean) wsL_law RL D sh ad A tys) (G : xG D sh ad A s.heap V H locs) (hL : LwS cI cZ cO tys e0 t nb nc od S sh ad V) (ht : t + 3 ≤ 100000) (hcs : cells + 24 ≤ room_1.cells ∧ slots + 540 ≤ room_1.slots) {g x : Int32} (hl : lv_has ls 10 [(0, .ref b), (1, .ref (ad 0)), (2, .ref (ad 16)), (3, .ref (ad 17)), (4, .int (nI ei)), (5, .int g), (6, .int x)])
    (cont : ∀ (t2 : Nat) (V : xV) (H : Heap) (locs : List Loc) (ls : Array Slot), t2 ≤ t + 3 → LwS cI cZ cO tys e0 t2 nb nc od S sh ad V → xG D sh ad A s.heap V H locs → lv_has ls 10 [(0, .ref b), (1, .ref (ad 0)), (2, .ref (ad 16)), (3, .ref (ad 17)), (4, .int (nI ei))] → W p l e room_1 s m args below meth c H locs (cells + 24) (slots + 540) Q (F0 m 217 ls [])) : W p l e room_1 s m args below meth c H locs (cells) (slots) Q (F0 m 194 ls []) := by
  have hx := B.1.1
  have hb := B.1.2.1
  obtain ⟨DW, hI, s16, s17, h16, h17⟩ := id hL
  have DL := DW.dl
  have Dl := DL.1
  have hT0 := DL.2.2.2.2.2.2.1.1
  have h40 := hI.1.2.2
  refine lv_iload hx hb dL_law_194 (lv_at hl 5 rfl) ?_
  refine lv_iconst (v := 5) hx hb dL_law_196 (by decide) ?_
  refine x_callSi (rest := []) B G (c_L_low l B.2.2.2.2.1 V g 5 (by decide) (by decide)) (va_cwS 2 B.1.2.2.2.2 gL_law_L_low rfl rfl rfl (by decide +kernel) ⟨Nat.le_of_ble_eq_true rfl, Nat.le_of_ble_eq_true rfl⟩) rfl hl.1 rfl (Nat.le_of_ble_eq_true rfl) ⟨by show cells ≤ _; omega, by show slots ≤ _; omega⟩ dL_law_197 (fun H locs G => ?_)
  refine lv_iconst (v := 1) hx hb dL_law_200 (by decide) ?_
  refine lv_icmp_ne (tgt := 217) hx hb dL_law_201 (by decide) (fun c_201 => ?_) (fun c_201 => ?_)
  · skip
    have c_201 : ¬ ((lowN g % 5) = 1) := fun h9 => c_201 ((nI_eq (a := (lowN g % 5)) (b := 1) (by omega) (by omega)).mpr h9)
    have hl := lv_sub (l' := [(0, .ref b), (1, .ref (ad 0)), (2, .ref (ad 16)), (3, .ref (ad 17)), (4, .int (nI ei))]) hl [0, 1, 2, 3, 4] rfl
    refine W.widen (k := cells + 24) (n := slots + 540) (by omega) (by omega) ?_
    exact cont t V H locs ls (by omega) hL G hl
  · skip
    have c_201 : (lowN g % 5) = 1 := (nI_eq (a := (lowN g % 5)) (b := 1) (by omega) (by omega)).mp c_201
    refine lv_aload_n hx hb dL_law_204 rfl (lv_at hl 1 rfl) ?_
    refine lv_iload hx hb dL_law_205 (lv_at hl 6 rfl) ?_
    refine lv_iconst (v := 2) hx hb dL_law_207 (by decide) ?_
    refine lv_ishr hx hb dL_law_208 ?_
    refine x_callSl (rest := []) B E F hN G (c_L_again l V hL ht (x >>> ((2 : Int32) &&& 31))) (va_cwS 2 B.1.2.2.2.2 gL_law_L_again rfl rfl rfl (by decide +kernel) ⟨Nat.le_of_ble_eq_true rfl, Nat.le_of_ble_eq_true rfl⟩) rfl hl.1 rfl (Nat.le_of_ble_eq_true rfl) ⟨by show cells + 24 ≤ _; omega, by show slots + 540 ≤ _; omega⟩ dL_law_209 (fun v sh9 ad9 V9 H locs hR B G => ?_)
    obtain ⟨hv9, h91, h92, hL9⟩ := hR
    rw [h91, h92] at G
    rw [h91, h92] at B
    subst hv9
    refine W.eq (g2 := F0 m 212 ls [.int 1]) rfl ?_
    refine lv_if_ne (tgt := 217) hx hb dL_law_212 (by decide) (fun c_212 => ?_) (fun c_212 => ?_)
    · skip
      have hl := lv_sub (l' := [(0, .ref b), (1, .ref (ad 0)), (2, .ref (ad 16)), (3, .ref (ad 17)), (4, .int (nI ei))]) hl [0, 1, 2, 3, 4] rfl
      refine W.widen (k := cells + 24) (n := slots + 540) (Nat.le_refl _) (Nat.le_refl _) ?_
      exact cont (t + 3) V9 H locs ls (by omega) hL9 G hl
    · exact False.elim (absurd c_212 (by decide))
set_option maxHeartbeats 4000000 in
set_option maxRecDepth 100000 in
theorem law_s5 {p : Program} {l : Launch} (hst : l.stackTraces = false) {e : Env} {s : State} {m : MethodId} {args : Array Value} {below : List Frame} {meth : Method} {c : Code} {A : Nat → Prop} {D : va_G} {cI cZ cO : ClassId} {tys : List (ClassId × FieldType)} {mi e0 : Nat} {sa : Nat → Nat} {b ei : Nat} {Q : State → Prop} (E : xE mi e0 A s s.heap) (F : xF sa A s s.heap) (hN : xN s) {t nb nc : Nat} {od S : Nat → Nat} {sh : xS} {ad : Nat → Nat} {V : xV} {H : Heap} {locs : List Loc} {ls : Array Slot} {cells slots : Nat} (B : xB p s m args meth c cL_law 10 (some .boolean) wsL_law RL D sh ad A tys) (G : xG D sh ad A s.heap V H locs) (hL : LwS cI cZ cO tys e0 t nb nc od S sh ad V) (ht : t ≤ 100000) (hcs : cells + 4672 ≤ room_1.cells ∧ slots + 105120 ≤ room_1.slots) {g x : Int32} (hl : lv_has ls 10 [(0, .ref b), (1, .ref (ad 0)), (2, .ref (ad 16)), (3, .ref (ad 17)), (4, .int (nI ei)), (5, .int g), (6, .int x)])
    (cont : ∀ (V : xV) (H : Heap) (locs : List Loc) (ls : Array Slot), LwS cI cZ cO tys e0 t nb nc od S sh ad V → xG D sh ad A s.heap V H locs → lv_has ls 10 [(0, .ref b), (1, .ref (ad 0)), (2, .ref (ad 16)), (3, .ref (ad 17)), (4, .int (nI ei)), (5, .int g), (6, .int x)] → W p l e room_1 s m args below meth c H locs (cells + 4672) (slots + 105120) Q (F0 m 194 ls [])) : W p l e room_1 s m args below meth c H locs (cells) (slots) Q (F0 m 158 ls []) := by
  have hx := B.1.1
  have hb := B.1.2.1
  obtain ⟨DW, hI, s16, s17, h16, h17⟩ := id hL
  have DL := DW.dl
  have Dl := DL.1
  have hT0 := DL.2.2.2.2.2.2.1.1
  have h40 := hI.1.2.2
  refine lv_aload_n hx hb dL_law_158 rfl (lv_at hl 1 rfl) ?_
  refine lv_aload_n hx hb dL_law_159 rfl (lv_at hl 2 rfl) ?_
  refine x_callSi (rest := []) B G (c_L_bundles l DL V hI (by omega) s16 h16) (va_cwS 2 B.1.2.2.2.2 gL_law_L_bundles rfl rfl rfl (by decide +kernel) ⟨Nat.le_of_ble_eq_true rfl, Nat.le_of_ble_eq_true rfl⟩) rfl hl.1 rfl (Nat.le_of_ble_eq_true rfl) ⟨by show cells ≤ _; omega, by show slots ≤ _; omega⟩ dL_law_160 (fun H locs G => ?_)
  refine lv_if_eq (tgt := 192) hx hb dL_law_163 (by decide) (fun c_163 => ?_) (fun c_163 => ?_)
  · exact False.elim (absurd c_163 (by decide))
  · skip
    refine lv_aload_n hx hb dL_law_166 rfl (lv_at hl 1 rfl) ?_
    refine lv_aload_n hx hb dL_law_167 rfl (lv_at hl 3 rfl) ?_
    refine x_callSl (rest := []) B E F hN G (c_L_buffers l hst DW V hI s17 h17) (va_cwS 2 B.1.2.2.2.2 gL_law_L_buffers rfl rfl rfl (by decide +kernel) ⟨Nat.le_of_ble_eq_true rfl, Nat.le_of_ble_eq_true rfl⟩) rfl hl.1 rfl (Nat.le_of_ble_eq_true rfl) ⟨by show cells + 4672 ≤ _; omega, by show slots + 105120 ≤ _; omega⟩ dL_law_168 (fun v sh9 ad9 V9 H locs hR B G => ?_)
    obtain ⟨hv9, h91, h92, h93⟩ := hR
    rw [h91, h92] at G
    rw [h91, h92] at B
    subst hv9
    refine W.eq (g2 := F0 m 171 ls [.int 1]) rfl ?_
    rw [h93] at G
    refine lv_if_eq (tgt := 192) hx hb dL_law_171 (by decide) (fun c_171 => ?_) (fun c_171 => ?_)
    · exact False.elim (absurd c_171 (by decide))
    · skip
      refine lv_iload hx hb dL_law_174 (lv_at hl 5 rfl) ?_
      refine lv_iconst (v := 3) hx hb dL_law_176 (by decide) ?_
      refine x_callSi (rest := []) B G (c_L_low l B.2.2.2.2.1 V g 3 (by decide) (by decide)) (va_cwS 2 B.1.2.2.2.2 gL_law_L_low rfl rfl rfl (by decide +kernel) ⟨Nat.le_of_ble_eq_true rfl, Nat.le_of_ble_eq_true rfl⟩) rfl hl.1 rfl (Nat.le_of_ble_eq_true rfl) ⟨by show cells + 4672 ≤ _; omega, by show slots + 105120 ≤ _; omega⟩ dL_law_177 (fun H locs G => ?_)
      refine lv_if_ne (tgt := 194) hx hb dL_law_180 (by decide) (fun c_180 => ?_) (fun c_180 => ?_)
      · skip
        have hl := lv_sub (l' := [(0, .ref b), (1, .ref (ad 0)), (2, .ref (ad 16)), (3, .ref (ad 17)), (4, .int (nI ei)), (5, .int g), (6, .int x)]) hl [0, 1, 2, 3, 4, 5, 6] rfl
        refine W.widen (k := cells + 4672) (n := slots + 105120) (Nat.le_refl _) (Nat.le_refl _) ?_
        exact cont V H locs ls hL G hl
      · skip
        refine lv_aload_n hx hb dL_law_183 rfl (lv_at hl 1 rfl) ?_
        refine lv_iload hx hb dL_law_184 (lv_at hl 6 rfl) ?_
        refine x_callSl (rest := []) B E F hN G (c_L_plan l DL V hI (by omega) x) (va_cwS 2 B.1.2.2.2.2 gL_law_L_plan rfl rfl rfl (by decide +kernel) ⟨Nat.le_of_ble_eq_true rfl, Nat.le_of_ble_eq_true rfl⟩) rfl hl.1 rfl (Nat.le_of_ble_eq_true rfl) ⟨by show cells + 4672 + 0 ≤ _; omega, by show slots + 105120 + 0 ≤ _; omega⟩ dL_law_186 (fun v sh9 ad9 V9 H locs hR B G => ?_)
        obtain ⟨hv9, h91, h92, hT9⟩ := hR
        rw [h91, h92] at G
        rw [h91, h92] at B
        subst hv9
        refine W.eq (g2 := F0 m 189 ls [.int 1]) rfl ?_
        have hL := hL.ti hT9
        refine lv_if_ne (tgt := 194) hx hb dL_law_189 (by decide) (fun c_189 => ?_) (fun c_189 => ?_)
        · skip
          have hl := lv_sub (l' := [(0, .ref b), (1, .ref (ad 0)), (2, .ref (ad 16)), (3, .ref (ad 17)), (4, .int (nI ei)), (5, .int g), (6, .int x)]) hl [0, 1, 2, 3, 4, 5, 6] rfl
          refine W.widen (k := cells + 4672) (n := slots + 105120) (Nat.le_refl _) (Nat.le_refl _) ?_
          exact cont V9 H locs ls hL G hl
        · exact False.elim (absurd c_189 (by decide))
set_option maxHeartbeats 4000000 in
set_option maxRecDepth 100000 in
theorem law_s4 {p : Program} {l : Launch} (hst : l.stackTraces = false) {e : Env} {s : State} {m : MethodId} {args : Array Value} {below : List Frame} {meth : Method} {c : Code} {A : Nat → Prop} {D : va_G} {cI cZ cO : ClassId} {tys : List (ClassId × FieldType)} {mi e0 : Nat} {sa : Nat → Nat} {b ei : Nat} {Q : State → Prop} (E : xE mi e0 A s s.heap) (F : xF sa A s s.heap) (hN : xN s) {t nb nc : Nat} {od S : Nat → Nat} {sh : xS} {ad : Nat → Nat} {V : xV} {H : Heap} {locs : List Loc} {ls : Array Slot} {cells slots : Nat} (B : xB p s m args meth c cL_law 10 (some .boolean) wsL_law RL D sh ad A tys) (G : xG D sh ad A s.heap V H locs) (hL : LwS cI cZ cO tys e0 t nb nc od S sh ad V) (ht : t ≤ 100000) (hcs : cells + 8 ≤ room_1.cells ∧ slots + 180 ≤ room_1.slots) {g x r : Int32} {kd nb0 : Nat} {V0 : xV} (s18 : sh 18 = some (fun f => .inl (cI, 64, .inl f))) (hb0 : nb0 ≤ 40) (w0 : V 18 0 = V0 0 0) (w1 : V 18 1 = nI nb0) (hkd : kd < 13) (hF : LF kd x nb0 nb V0 V r) (hl : lv_has ls 10 [(0, .ref b), (1, .ref (ad 0)), (2, .ref (ad 16)), (3, .ref (ad 17)), (4, .int (nI ei)), (5, .int g), (6, .int x), (7, .int (nI kd)), (8, .ref (ad 18))])
    (cont : ∀ (H : Heap) (locs : List Loc) (ls : Array Slot), xG D sh ad A s.heap V H locs → lv_has ls 10 [(0, .ref b), (1, .ref (ad 0)), (2, .ref (ad 16)), (3, .ref (ad 17)), (4, .int (nI ei)), (5, .int g), (6, .int x)] → W p l e room_1 s m args below meth c H locs (cells + 8) (slots + 180) Q (F0 m 158 ls [])) : W p l e room_1 s m args below meth c H locs (cells) (slots) Q (F0 m 107 ls [.int r]) := by
  have hx := B.1.1
  have hb := B.1.2.1
  obtain ⟨DW, hI, s16, s17, h16, h17⟩ := id hL
  have DL := DW.dl
  have Dl := DL.1
  have hT0 := DL.2.2.2.2.2.2.1.1
  have h40 := hI.1.2.2
  obtain ⟨rq, rq40, e_r⟩ := hF.pos hb0
  have r0 : 0 ≤ r := by rw [e_r]; exact nI_pos' (by omega)
  refine lv_istore (lv' := [(9, .int r), (0, .ref b), (1, .ref (ad 0)), (2, .ref (ad 16)), (3, .ref (ad 17)), (4, .int (nI ei)), (5, .int g), (6, .int x), (7, .int (nI kd)), (8, .ref (ad 18))]) hx hb dL_law_107 hl (by decide) rfl (fun ls hl => ?_)
  refine lv_iload hx hb dL_law_109 (lv_at hl 0 rfl) ?_
  refine lv_iconst (v := (-1)) hx hb dL_law_111 (by decide) ?_
  refine lv_icmp_lt (tgt := 126) hx hb dL_law_112 (by decide) (fun c_112 => ?_) (fun c_112 => ?_)
  · exact False.elim (absurd r0 (i_nle.mpr (lt_m1 c_112)))
  · skip
    refine lv_iload hx hb dL_law_115 (lv_at hl 0 rfl) ?_
    refine lv_if_ge (tgt := 141) hx hb dL_law_117 (by decide) (fun c_117 => ?_) (fun c_117 => ?_)
    · skip
      refine lv_aload_n hx hb dL_law_141 rfl (lv_at hl 2 rfl) ?_
      refine lv_iload hx hb dL_law_142 (lv_at hl 8 rfl) ?_
      refine lv_iload hx hb dL_law_144 (lv_at hl 7 rfl) ?_
      refine lv_iload hx hb dL_law_146 (lv_at hl 0 rfl) ?_
      refine lv_aload hx hb dL_law_148 (lv_at hl 9 rfl) ?_
      refine x_callSl (rest := []) B E F hN G (c_L_left l hst DW V hI s18 hb0 w0 w1 kd hkd x r hF) (va_cwS 5 B.1.2.2.2.2 gL_law_L_left rfl rfl rfl (by decide +kernel) ⟨Nat.le_of_ble_eq_true rfl, Nat.le_of_ble_eq_true rfl⟩) rfl hl.1 rfl (Nat.le_of_ble_eq_true rfl) ⟨by show cells + 8 ≤ _; omega, by show slots + 180 ≤ _; omega⟩ dL_law_150 (fun v sh9 ad9 V9 H locs hR B G => ?_)
      obtain ⟨hv9, h91, h92, h93⟩ := hR
      rw [h91, h92] at G
      rw [h91, h92] at B
      subst hv9
      refine W.eq (g2 := F0 m 153 ls [.int 1]) rfl ?_
      rw [h93] at G
      refine lv_if_ne (tgt := 158) hx hb dL_law_153 (by decide) (fun c_153 => ?_) (fun c_153 => ?_)
      · skip
        have hl := lv_sub (l' := [(0, .ref b), (1, .ref (ad 0)), (2, .ref (ad 16)), (3, .ref (ad 17)), (4, .int (nI ei)), (5, .int g), (6, .int x)]) hl [1, 2, 3, 4, 5, 6, 7] rfl
        refine W.widen (k := cells + 8) (n := slots + 180) (Nat.le_refl _) (Nat.le_refl _) ?_
        exact cont H locs ls G hl
      · exact False.elim (absurd c_153 (by decide))
    · exact False.elim (c_117 r0)
