theorem xW.keepK {D : va_G} {sh sh' : xS} {ad ad' : Nat → Nat} {V' : xV} {H H1 : Heap} (W' : xW D sh' ad' V' H) (hap : xApart sh ad sh' ad') (hk : ∀ q : Nat, q < H.size → ¬ xA sh ad H.size q → H1[q]? = H[q]?) : xW D sh' ad' V' H1 := fun j mj hj =>
  (W' j mj hj).kept (hk _ (W' j mj hj).lt (fun z => by
    rcases z with ⟨i, mk, hi, e⟩ | z
    · exact hap i mk j mj hi hj e
    · exact Nat.not_le.mpr (W' j mj hj).lt z))
section XK
variable {p : Program} {l : Launch} {e : Env} {R : Room} {s : State} {m : MethodId} {args : Array Value} {below : List Frame} {meth : Method} {c : Code} {H : Heap} {locs : List Loc} {cells slots : Nat} {Q : State → Prop}
variable {cc : ByteArray} {nL : Nat} {ret : Option FieldType} {Ts : List Cond} {own : String} {D : va_G} {sh : xS} {ad : Nat → Nat} {A : Nat → Prop} {tys : List (ClassId × FieldType)} {V : xV} {pc : Nat} {ls : Array Slot} {rest st0 : List Value}
/-- a call, and what else lies in the heap -/
theorem x_callViK {y : MethodName} {bytes : ByteArray} {maxL n index : Nat} {rty : Option FieldType} {ws : List Cond} {rm : Room} {C : String} {b : Addr} {As : List Value} {r : Int32} {V' : xV} (Kp : Heap → Prop)
    (B : xB p s m args meth c cc nL ret Ts own D sh ad A tys) (G : xG D sh ad A s.heap V H locs) (hKp : ∀ H1 : Heap, H.size ≤ H1.size → (∀ q : Nat, q < H.size → ¬ xA sh ad H.size q → H1[q]? = H[q]?) → Kp H1) (hM : xMi l y ws rm D sh ad tys V (.ref b :: As) r V') (cw : CallW R s args own C index y bytes maxL rty ws rm 0 0 n)
    (hrv : ∃ cell : Cell, H[b]? = some cell ∧ cell.vm.isStatics = false ∧ s.vm.findClass C = some cell.cls) (hn : As.length = n) (hsz : ls.size = nL) (hst : st0 = As.reverse ++ .ref b :: rest) (hW : (rest.map fun v => v.category).sum ≤ 8) (hcs : cells ≤ R.cells ∧ slots ≤ R.slots) (hdg : decode cc pc = .ok (.invokevirtual index, 3))
    (kk : ∀ (H1 : Heap) (locs1 : List Loc), Kp H1 → xG D sh ad A s.heap V' H1 locs1 → W p l e R s m args below meth c H1 locs1 cells slots Q (F0 m (pc + 3) ls (.int r :: rest))) : W p l e R s m args below meth c H locs cells slots Q (F0 m pc ls st0) := by
  have hA := xB.lt B G
  obtain ⟨S, -, -, hK, -⟩ := B
  refine va_calli (va_runV (As := As) (rest := rest) S (hM H.size) cw ⟨xPre_blind, hrv, fun U hU hW => ⟨rfl, by rw [hU], by rw [hU]; exact G.1, va_K.moved hW.alike hK⟩⟩ rfl hn hsz hst (lv_room hW) hdg hcs) G.2 (fun q _ h => hA q h) hA (fun r9 u t H1 locs1 ht hvm hw hB hz1 hk1 hS => ?_)
  obtain ⟨rfl, rfl⟩ := hw
  exact kk H1 locs1 (hKp H1 hz1 hk1) ⟨by rw [← ht]; exact hB.1, hS⟩
end XK
theorem cPlc_spec (V : xV) (od : Nat → Nat) (b k : Nat) : (∀ j, j < cPlc V od b k → ¬ bBef V b (20 + 4 * od j) = true) ∧ (cPlc V od b k < k → bBef V b (20 + 4 * od (cPlc V od b k)) = true) := by
  induction k with
  | zero => exact ⟨fun j hj => absurd hj (Nat.not_lt_zero j), fun h => absurd h (Nat.not_lt_zero _)⟩
  | succ k ih =>
    by_cases h : cPlc V od b k = k
    · by_cases h2 : bBef V b (20 + 4 * od k) = true
      · rw [cPlc_stop h h2 (k + 1) (by omega)]
        rw [h] at ih
        exact ⟨ih.1, fun _ => h2⟩
      · rw [cPlc_s h h2]
        rw [h] at ih
        refine ⟨fun j hj => ?_, fun z => absurd z (Nat.lt_irrefl _)⟩
        rcases Nat.lt_or_ge j k with c | c
        · exact ih.1 j c
        · rw [show j = k by omega]; exact h2
    · have e : cPlc V od b (k + 1) = cPlc V od b k := if_neg (fun z => h z.1)
      have := cPlc_le V od b k
      rw [e]
      exact ⟨ih.1, fun _ => ih.2 (by omega)⟩
def insOd (od : Nat → Nat) (P nb : Nat) : Nat → Nat := fun j => if j < P then od j else if j = P then nb else od (j - 1)
theorem insOd_lt {od : Nat → Nat} {P nb : Nat} (h : ∀ k, k < nb → od k < nb) (hP : P ≤ nb) : ∀ k, k < nb + 1 → insOd od P nb k < nb + 1 := by
  intro k hk
  unfold insOd
  split
  · have := h k (by omega); omega
  · split
    · omega
    · have := h (k - 1) (by omega); omega
theorem lIns_od {ad : Nat → Nat} {f : Nat → Option Nat} {od : Nat → Nat} {P nb : Nat} (hf : ∀ j, j < nb → f j = some (ad (20 + 4 * od j))) (hP : P ≤ nb) : ∀ j, j ≤ nb → lIns f P (some (ad (20 + 4 * nb))) j = some (ad (20 + 4 * insOd od P nb j)) := by
  intro j hj
  unfold lIns insOd
  by_cases c : j < P
  · rw [if_pos c, if_pos c]; exact hf j (by omega)
  · rw [if_neg c, if_neg c]
    by_cases e : j = P
    · rw [if_pos e, if_pos e]
    · rw [if_neg e, if_neg e]; exact hf _ (by omega)
theorem lEnd_od {ad : Nat → Nat} {f : Nat → Option Nat} {nb : Nat} (hf : ∀ j, j < nb → f j = some (ad (20 + 4 * j))) : ∀ j, j ≤ nb → lEnd f nb (some (ad (20 + 4 * nb))) j = some (ad (20 + 4 * j)) := by
  intro j hj
  by_cases c : j < nb
  · rw [lEnd_lt c]; exact hf j c
  · rw [lEnd_at c, show j = nb by omega]
set_option maxHeartbeats 1000000 in
set_option maxRecDepth 100000 in
theorem c_X2_send_ok (l : Launch) {D : va_G} {sh : xS} {ad : Nat → Nat} {cI cZ cO : ClassId} {tys : List (ClassId × FieldType)} {mi e0 nb : Nat} {od : Nat → Nat} (DW : xDw sh ad cI cZ cO tys e0 nb od) (V : xV) (h4 : V 4 2 = nI nb) (h5 : V 5 2 = nI nb) (n : Nat) (y p0 c0 t0 : Int32) (hn : n < 8) (hy7 : 0 ≤ y ∧ y ≤ 7) (h : nI n ≠ y ∧ (0 ≤ p0 ∧ p0 ≤ 2) ∧ (1 ≤ c0 ∧ c0 ≤ 64) ∧ (1 ≤ t0 ∧ t0 ≤ 10000)) (h40 : nb < 40) (hr : cRoomB V od n p0 nb = true) : xMa l yX2_send wsX2_send { frames := 9, cells := 6, slots := 160, locals := 600 } D sh ad tys mi e0 V [.ref (ad 0), .int (nI n), .int y, .int p0, .int c0, .int t0] (fun v sh' ad' V' => ∃ P, v = some (.int (nI nb)) ∧ P ≤ nb ∧ xDw sh' ad' cI cZ cO tys e0 (nb + 1) (insOd od P nb) ∧ ad' 0 = ad 0 ∧ (∀ i, 16 ≤ i → i < 20 → sh' i = sh i ∧ ad' i = ad i) ∧ (∀ j, j < P → ¬ bBef V' (20 + 4 * nb) (20 + 4 * od j) = true) ∧ (P < nb → bBef V' (20 + 4 * nb) (20 + 4 * od P) = true) ∧ (∀ j, j < 20 + 4 * nb → j ≠ 4 → j ≠ 5 → V' j = cRoomV V od n p0 nb j) ∧ V' 4 2 = nI (nb + 1) ∧ V' 5 2 = nI (nb + 1) ∧ V' (20 + 4 * nb) = upd (upd (upd (upd (upd (upd (upd (upd (upd (fun _ => 0) 0 (nI nb)) 1 y) 2 p0) 3 (V 0 0 + t0)) 7 (-1)) 8 (-1)) 9 0) 10 (-1)) 7 (nI n) ∧ V' (20 + 4 * nb + 1) = upd (fun _ => 0) n c0 ∧ V' (20 + 4 * nb + 2) = upd (fun _ => 0) n 0 ∧ V' (20 + 4 * nb + 3) = (fun _ => 0)) := by
  have DL := DW.dl
  obtain ⟨Dl, Pl, S4, S5, Bs, od_lt, Cx, tO, hn40, h15, hNN⟩ := id DW
  refine xOfa (cc := cX2_send) (nL := 7) (ret := some .int) (own := RX2) (by decide) rfl rfl (Nat.le_of_ble_eq_true rfl) Cx.2.2 ?_
  intro p e s m args below meth c A ls hA hname B E G hl
  have hx := B.1.1
  have hb := B.1.2.1
  have hin0 : ∀ w ∈ wsX00, w ∈ wsX2_send := by decide +kernel
  have hin2 : ∀ w ∈ wsX20, w ∈ wsX2_send := by decide +kernel
  have hinL : ∀ w ∈ wsJx4a65c0, w ∈ wsX2_send := by decide +kernel
  have hl : lv_has ls 7 [(0, .ref (ad 0)), (1, .int (nI n)), (2, .int y), (3, .int p0), (4, .int c0), (5, .int t0)] := hl
  have L4 := S4.li
  have L5 := S5.li
  obtain ⟨a4, s4, -⟩ := id L4
  obtain ⟨a5, s5, -⟩ := id L5
  have hn8 := hn
  refine lv_iload_n hx hb dX2_send_0 rfl (lv_at hl 1 rfl) ?_
  refine x_callSi (rest := []) B G (c_X2_isNode l Cx.2.2 V (nI n)) (va_cwS 1 B.1.2.2.2.2 gX2_send_X2_isNode rfl rfl rfl (by decide +kernel) ⟨Nat.le_of_ble_eq_true rfl, Nat.le_of_ble_eq_true rfl⟩) rfl hl.1 rfl (Nat.le_of_ble_eq_true rfl) ⟨Nat.zero_le _, Nat.zero_le _⟩ dX2_send_1 (fun H locs G => ?_)
  refine lv_if_eq (tgt := 14) hx hb dX2_send_4 (by decide) (fun c_4 => ?_) (fun c_4 => ?_)
  · exact False.elim (b2i_0.mp c_4 (nodeOK hn))
  · skip
    refine lv_iload_n hx hb dX2_send_7 rfl (lv_at hl 2 rfl) ?_
    refine x_callSi (rest := []) B G (c_X2_isNode l Cx.2.2 V y) (va_cwS 1 B.1.2.2.2.2 gX2_send_X2_isNode rfl rfl rfl (by decide +kernel) ⟨Nat.le_of_ble_eq_true rfl, Nat.le_of_ble_eq_true rfl⟩) rfl hl.1 rfl (Nat.le_of_ble_eq_true rfl) ⟨Nat.zero_le _, Nat.zero_le _⟩ dX2_send_8 (fun H locs G => ?_)
    refine lv_if_ne (tgt := 24) hx hb dX2_send_11 (by decide) (fun c_11 => ?_) (fun c_11 => ?_)
    · skip
      refine lv_iload_n hx hb dX2_send_24 rfl (lv_at hl 1 rfl) ?_
      refine lv_iload_n hx hb dX2_send_25 rfl (lv_at hl 2 rfl) ?_
      refine lv_icmp_eq (tgt := 61) hx hb dX2_send_26 (by decide) (fun c_26 => ?_) (fun c_26 => ?_)
      · exact False.elim (h.1 c_26)
      · skip
        refine lv_iload_n hx hb dX2_send_29 rfl (lv_at hl 3 rfl) ?_
        refine lv_iconst (v := 0) hx hb dX2_send_30 (by decide) ?_
        refine lv_iconst (v := 2) hx hb dX2_send_31 (by decide) ?_
        refine x_callSi (rest := []) B G (c_X2_isWithin l Cx.2.2 V p0 0 2) (va_cwS 3 B.1.2.2.2.2 gX2_send_X2_isWithin rfl rfl rfl (by decide +kernel) ⟨Nat.le_of_ble_eq_true rfl, Nat.le_of_ble_eq_true rfl⟩) rfl hl.1 rfl (Nat.le_of_ble_eq_true rfl) ⟨Nat.zero_le _, Nat.zero_le _⟩ dX2_send_32 (fun H locs G => ?_)
        refine lv_if_eq (tgt := 61) hx hb dX2_send_35 (by decide) (fun c_35 => ?_) (fun c_35 => ?_)
        · exact False.elim (b2i_0.mp c_35 (h.2.1))
        · skip
          refine lv_iload hx hb dX2_send_38 (lv_at hl 4 rfl) ?_
          refine lv_iconst (v := 1) hx hb dX2_send_40 (by decide) ?_
          refine lv_bipush (v := 64) hx hb dX2_send_41 (by decide) ?_
          refine x_callSi (rest := []) B G (c_X2_isWithin l Cx.2.2 V c0 1 64) (va_cwS 3 B.1.2.2.2.2 gX2_send_X2_isWithin rfl rfl rfl (by decide +kernel) ⟨Nat.le_of_ble_eq_true rfl, Nat.le_of_ble_eq_true rfl⟩) rfl hl.1 rfl (Nat.le_of_ble_eq_true rfl) ⟨Nat.zero_le _, Nat.zero_le _⟩ dX2_send_43 (fun H locs G => ?_)
          refine lv_if_eq (tgt := 61) hx hb dX2_send_46 (by decide) (fun c_46 => ?_) (fun c_46 => ?_)
          · exact False.elim (b2i_0.mp c_46 (h.2.2.1))
          · skip
            refine lv_iload hx hb dX2_send_49 (lv_at hl 5 rfl) ?_
            refine lv_iconst (v := 1) hx hb dX2_send_51 (by decide) ?_
            refine lv_sipush (v := 10000) hx hb dX2_send_52 (by decide) ?_
            refine x_callSi (rest := []) B G (c_X2_isWithin l Cx.2.2 V t0 1 10000) (va_cwS 3 B.1.2.2.2.2 gX2_send_X2_isWithin rfl rfl rfl (by decide +kernel) ⟨Nat.le_of_ble_eq_true rfl, Nat.le_of_ble_eq_true rfl⟩) rfl hl.1 rfl (Nat.le_of_ble_eq_true rfl) ⟨Nat.zero_le _, Nat.zero_le _⟩ dX2_send_55 (fun H locs G => ?_)
            refine lv_if_ne (tgt := 71) hx hb dX2_send_58 (by decide) (fun c_58 => ?_) (fun c_58 => ?_)
            · skip
              refine lv_aload_n hx hb dX2_send_71 rfl (lv_at hl 0 rfl) ?_
              refine d_getA B G Dl hin2 4 (by decide) (by decide +kernel) dX2_send_72 ?_
              refine x_callVi (rest := []) B G (c_size l Cx.2.2 V 4 s4) (cwV 0 B.1.2.2.2.2 gX2_send_Jx4a65c_size_8abf5 rfl rfl rfl (by decide +kernel) ⟨Nat.le_of_ble_eq_true rfl, Nat.le_of_ble_eq_true rfl⟩) (l_recv B G 4 s4) rfl hl.1 rfl (Nat.le_of_ble_eq_true rfl) ⟨Nat.zero_le _, Nat.zero_le _⟩ dX2_send_75 (fun H locs G => ?_)
              refine x_top (show _ = nI nb from h4) ?_
              refine lv_bipush (v := 40) hx hb dX2_send_78 (by decide) ?_
              refine lv_icmp_lt (tgt := 93) hx hb dX2_send_80 (by decide) (fun c_80 => ?_) (fun c_80 => ?_)
              · skip
                have c_80 : nb < 40 := (nI_ltI (a := nb) (b := 40) (by omega) (by omega)).mp c_80
                refine lv_aload_n hx hb dX2_send_93 rfl (lv_at hl 0 rfl) ?_
                refine lv_iload_n hx hb dX2_send_94 rfl (lv_at hl 1 rfl) ?_
                refine lv_iload_n hx hb dX2_send_95 rfl (lv_at hl 3 rfl) ?_
                refine x_callVi (rest := []) B G (c_X2_makeRoom l DL V h4 h5 n p0 hn) (cwV 2 B.1.2.2.2.2 gX2_send_X2_makeRoom rfl rfl rfl (by decide +kernel) ⟨Nat.le_of_ble_eq_true rfl, Nat.le_of_ble_eq_true rfl⟩) (d_recv B G Dl) rfl hl.1 rfl (Nat.le_of_ble_eq_true rfl) ⟨Nat.zero_le _, Nat.zero_le _⟩ dX2_send_96 (fun H locs G => ?_)
                refine lv_if_ne (tgt := 112) hx hb dX2_send_99 (by decide) (fun c_99 => ?_) (fun c_99 => ?_)
                · skip
                  refine x_newS B G 0 (C := RX0) (T := TX0) (N := 11) (ci := 3) (fun f => [.int (f 0), .int (f 1), .int (f 2), .int (f 3), .null, .null, .null, .int (f 7), .int (f 8), .int (f 9), .int (f 10)]) rfl hin0 tyX0 tyX0_ok (by decide +kernel) (by decide +kernel) (by decide +kernel) (fun j hj => by rcases (show j = 0 ∨ j = 1 ∨ j = 2 ∨ j = 3 ∨ j = 4 ∨ j = 5 ∨ j = 6 ∨ j = 7 ∨ j = 8 ∨ j = 9 ∨ j = 10 by omega) with rfl | rfl | rfl | rfl | rfl | rfl | rfl | rfl | rfl | rfl | rfl <;> rfl) (by decide) (by decide) dX2_send_112 (fun q9 H G W0 hap hAq => ?_)
                  refine lv_dup hx hb dX2_send_115 rfl ?_
                  refine lv_aload_n hx hb dX2_send_116 rfl (lv_at hl 0 rfl) ?_
                  refine d_getA B G Dl hin2 4 (by decide) (by decide +kernel) dX2_send_117 ?_
                  refine x_callViK (rest := [.ref q9, .ref q9]) (fun H1 => xW D (sU sN 0 (fun f => .inr (3, [.int (f 0), .int (f 1), .int (f 2), .int (f 3), .null, .null, .null, .int (f 7), .int (f 8), .int (f 9), .int (f 10)]))) (fun _ => q9) (fun _ _ => 0) H1) B G (fun H1 hz hk => W0.keepK hap hk) (c_size l Cx.2.2 (cRoomV V od n p0 nb) 4 s4) (cwV 0 B.1.2.2.2.2 gX2_send_Jx4a65c_size_8abf5 rfl rfl rfl (by decide +kernel) ⟨Nat.le_of_ble_eq_true rfl, Nat.le_of_ble_eq_true rfl⟩) (l_recv B G 4 s4) rfl hl.1 rfl (Nat.le_of_ble_eq_true rfl) ⟨by decide, by decide⟩ dX2_send_120 (fun H locs W0 G => ?_)
                  refine x_top (show _ = nI nb from by rw [cRoomV_o _ _ _ _ _ (by decide) (by omega)]; exact h4) ?_
                  refine lv_iload_n hx hb dX2_send_123 rfl (lv_at hl 2 rfl) ?_
                  refine lv_iload_n hx hb dX2_send_124 rfl (lv_at hl 3 rfl) ?_
                  refine lv_aload_n hx hb dX2_send_125 rfl (lv_at hl 0 rfl) ?_
                  refine d_getI B G Dl hin2 (by decide +kernel) dX2_send_126 ?_
                  refine x_top (show _ = V 0 0 from (by rw [cRoomV_o _ _ _ _ _ (by decide) (by omega)])) ?_
                  refine lv_iload hx hb dX2_send_129 (lv_at hl 5 rfl) ?_
                  refine lv_iadd hx hb dX2_send_131 ?_
                  refine x_callISub (rest := [.ref q9]) B E G W0 (fun i mk hi => hAq) hap (c_X0_init l Cx.1 Cx.2.1 q9 (nI nb) y p0 (V 0 0 + t0)) (cwI 4 B.1.2.2.2.2 gX2_send_X0_init rfl rfl rfl (B.1.2.2.2.2 (.initialized RX0) (by decide +kernel)) (B.1.2.2.2.2 (.methodLink RX2 77 yX0_init) (by decide +kernel)) (B.1.2.2.2.2 (.instanceMethod yX0_init) (by decide +kernel)) rfl (by decide +kernel) ⟨Nat.le_of_ble_eq_true rfl, Nat.le_of_ble_eq_true rfl⟩) rfl hl.1 rfl (Nat.le_of_ble_eq_true rfl) ⟨by decide, by decide⟩ dX2_send_132 (fun v sh9 ad9 V9 H locs hR hI9 hA9 hap9 W9 G => ?_)
                  obtain ⟨rfl, hb1, hb2, hb3, hb4, hb5, hb6, hb7⟩ := hR
                  obtain ⟨B, G⟩ := x_joinB B G hI9 W9 hap9 hA9 (20 + 4 * nb)
                  obtain ⟨sh1, eS⟩ : ∃ z : xS, z = mK (20 + 4 * nb) sh9 sh := ⟨_, rfl⟩
                  obtain ⟨ad1, eA⟩ : ∃ z : Nat → Nat, z = mK (20 + 4 * nb) ad9 ad := ⟨_, rfl⟩
                  obtain ⟨V1, eV⟩ : ∃ z : xV, z = mK (20 + 4 * nb) V9 (cRoomV V od n p0 nb) := ⟨_, rfl⟩
                  rw [← eS, ← eA] at B
                  rw [← eS, ← eA, ← eV] at G
                  have k_lo : ∀ j, j < 20 + 4 * nb → sh1 j = sh j := fun j hj => by rw [eS]; exact mK_lo hj
                  have a_lo : ∀ j, j < 20 + 4 * nb → ad1 j = ad j := fun j hj => by rw [eA]; exact mK_lo hj
                  have v_lo : ∀ j, j < 20 + 4 * nb → V1 j = cRoomV V od n p0 nb j := fun j hj => by rw [eV]; exact mK_lo hj
                  have k_hi : ∀ k, sh1 (20 + 4 * nb + k) = sh9 k := fun k => by rw [eS]; exact mK_hi k
                  have a_hi : ∀ k, ad1 (20 + 4 * nb + k) = ad9 k := fun k => by rw [eA]; exact mK_hi k
                  have v_hi : ∀ k, V1 (20 + 4 * nb + k) = V9 k := fun k => by rw [eV]; exact mK_hi k
                  have hN1 : ∀ j, 24 + 4 * nb ≤ j → sh1 j = none := fun j hj => by
                    have := k_hi (j - (20 + 4 * nb))
                    rw [show 20 + 4 * nb + (j - (20 + 4 * nb)) = j by omega] at this
                    rw [this]; exact hb3 _ (by omega)
                  have h151 : sh1 15 = none := (k_lo 15 (by omega)).trans h15
                  have Bb : xBu sh1 ad1 cI cZ (20 + 4 * nb) := hb1.tr (k_hi 0) (k_hi 1) (k_hi 2) (k_hi 3) (a_hi 1) (a_hi 2) (a_hi 3)
                  have Dl : xDo sh1 ad1 cI := Dl.tr (fun j hj => k_lo j (by omega)) (fun j hj => a_lo j (by omega))
                  have Pl : xPl sh1 ad1 cI cZ := Pl.tr (fun j hj => k_lo j (by omega)) (fun j hj => a_lo j (by omega))
                  have Bs : ∀ k, k < nb → xBu sh1 ad1 cI cZ (20 + 4 * k) := fun k hk => (Bs k hk).tr (k_lo _ (by omega)) (k_lo _ (by omega)) (k_lo _ (by omega)) (k_lo _ (by omega)) (a_lo _ (by omega)) (a_lo _ (by omega)) (a_lo _ (by omega))
                  have S4 : lSt sh1 ad1 cO e0 4 7 nb (fun k => 20 + 4 * k) := S4.tr (k_lo 4 (by omega)) (k_lo 7 (by omega)) (a_lo 7 (by omega)) (fun j hj => a_lo _ (by omega))
                  have S5 : lSt sh1 ad1 cO e0 5 8 nb (fun k => 20 + 4 * od k) := S5.tr (k_lo 5 (by omega)) (k_lo 8 (by omega)) (a_lo 8 (by omega)) (fun j hj => a_lo _ (by have := od_lt j hj; omega))
                  have Cx : xCx sh1 ad1 cI cZ tys := ⟨Cx.1, Cx.2.1, B.2.2.2.2.1⟩
                  have DL : xDl sh1 ad1 cI cZ cO tys nb od := ⟨Dl, Pl, S4.li, S5.li, Bs, od_lt, Cx, tO, hn40⟩
                  have L4 := S4.li
                  have L5 := S5.li
                  obtain ⟨a4, s4, -⟩ := id L4
                  obtain ⟨a5, s5, -⟩ := id L5
                  have h41 : V1 4 2 = nI nb := by rw [v_lo 4 (by omega), cRoomV_o _ _ _ _ _ (by decide) (by omega)]; exact h4
                  have h51 : V1 5 2 = nI nb := by rw [v_lo 5 (by omega), cRoomV_o _ _ _ _ _ (by decide) (by omega)]; exact h5
                  have e_00 : ad 0 = ad1 0 := (a_lo 0 (by omega)).symm
                  refine W.eq (g2 := F0 m 135 ls [.ref (ad1 (20 + 4 * nb))]) (by rw [show ad1 (20 + 4 * nb) = q9 from (a_hi 0).trans hb2]; rfl) ?_
                  have hl : lv_has ls 7 [(0, .ref (ad1 0)), (1, .int (nI n)), (2, .int y), (3, .int p0), (4, .int c0), (5, .int t0)] := lv_cast hl (by rw [e_00])
                  refine lv_astore (lv' := [(6, .ref (ad1 (20 + 4 * nb))), (0, .ref (ad1 0)), (1, .int (nI n)), (2, .int y), (3, .int p0), (4, .int c0), (5, .int t0)]) hx hb dX2_send_135 hl (by decide) rfl (fun ls hl => ?_)
                  refine lv_aload hx hb dX2_send_137 (lv_at hl 0 rfl) ?_
                  refine lv_iload_n hx hb dX2_send_139 rfl (lv_at hl 2 rfl) ?_
                  refine b_putI B G Bb hin0 7 (by decide) (by decide +kernel) dX2_send_140 (fun H locs G => ?_)
                  refine lv_aload hx hb dX2_send_143 (lv_at hl 0 rfl) ?_
                  refine lv_iload_n hx hb dX2_send_145 rfl (lv_at hl 2 rfl) ?_
                  refine lv_iload hx hb dX2_send_146 (lv_at hl 5 rfl) ?_
                  refine lv_iconst (v := 0) hx hb dX2_send_148 (by decide) ?_
                  refine x_callVv (rest := []) B G (c_X0_put l Cx (xu V1 (20 + 4 * nb) 7 (nI n)) (20 + 4 * nb) Bb n c0 0 (by omega)) (cwV 3 B.1.2.2.2.2 gX2_send_X0_put rfl rfl rfl (by decide +kernel) ⟨Nat.le_of_ble_eq_true rfl, Nat.le_of_ble_eq_true rfl⟩) (b_recv B G Bb) rfl hl.1 rfl (Nat.le_of_ble_eq_true rfl) ⟨by decide, by decide⟩ dX2_send_149 (fun H locs G => ?_)
                  refine lv_aload_n hx hb dX2_send_152 rfl (lv_at hl 1 rfl) ?_
                  refine d_getA B G Dl hin2 5 (by decide) (by decide +kernel) dX2_send_153 ?_
                  refine lv_aload_n hx hb dX2_send_156 rfl (lv_at hl 1 rfl) ?_
                  refine lv_aload hx hb dX2_send_157 (lv_at hl 0 rfl) ?_
                  have h43 : (bPut (xu V1 (20 + 4 * nb) 7 (nI n)) (20 + 4 * nb) n c0 0) 4 2 = nI nb := by rw [bPut_o _ _ _ _ _ (by omega) (by omega), xu_ne _ _ _ (by omega)]; exact h41
                  have h53 : (bPut (xu V1 (20 + 4 * nb) 7 (nI n)) (20 + 4 * nb) n c0 0) 5 2 = nI nb := by rw [bPut_o _ _ _ _ _ (by omega) (by omega), xu_ne _ _ _ (by omega)]; exact h51
                  refine x_callVi (rest := [.ref (ad1 5)]) B G (c_X2_placeInOrder l DL (bPut (xu V1 (20 + 4 * nb) 7 (nI n)) (20 + 4 * nb) n c0 0) h43 h53 (20 + 4 * nb) Bb) (cwV 1 B.1.2.2.2.2 gX2_send_X2_placeInOrder rfl rfl rfl (by decide +kernel) ⟨Nat.le_of_ble_eq_true rfl, Nat.le_of_ble_eq_true rfl⟩) (d_recv B G Dl) rfl hl.1 rfl (Nat.le_of_ble_eq_true rfl) ⟨by decide, by decide⟩ dX2_send_159 (fun H locs G => ?_)
                  refine lv_aload hx hb dX2_send_162 (lv_at hl 0 rfl) ?_
                  obtain ⟨P, eP⟩ : ∃ z, z = (cPlc (bPut (xu V1 (20 + 4 * nb) 7 (nI n)) (20 + 4 * nb) n c0 0) od (20 + 4 * nb) nb) := ⟨_, rfl⟩
                  rw [← eP]
                  have hP : P ≤ nb := by rw [eP]; exact cPlc_le _ _ _ _
                  obtain ⟨ea5, f5, s51, s52, s53⟩ := S5
                  refine x_callVa (rest := []) B E G (c_Jx4a65c_add_7a177 l B.2.2.2.2.1 tO (N := 24 + 4 * nb) (by omega) hN1 (bPut (xu V1 (20 + 4 * nb) 7 (nI n)) (20 + 4 * nb) n c0 0) 5 8 (20 + 4 * nb) nb ea5 (by decide) (by decide) (by omega) (by decide) (by omega) (by omega) h151 f5 s51 h53 hn40 s52 Bb.1 (fun j hj => ⟨20 + 4 * od j, _, by omega, by omega, by omega, (Bs _ (od_lt j hj)).1, s53 j hj⟩) (by omega) P hP) (cwV 2 B.1.2.2.2.2 gX2_send_Jx4a65c_add_7a177 rfl rfl rfl (by decide +kernel) ⟨Nat.le_of_ble_eq_true rfl, Nat.le_of_ble_eq_true rfl⟩) (l_recv B G 5 s51) rfl hl.1 rfl (Nat.le_of_ble_eq_true rfl) ⟨by decide, by decide⟩ dX2_send_164 (fun v sh2 ad2 V4 H locs hR B G => ?_)
                  obtain ⟨rfl, hL⟩ := hR
                  have e4 := hL.Vq
                  have k2 : ∀ j, j ≠ 5 → j ≠ 8 → sh2 j = sh1 j := fun j h1 h2 => hL.shq h1 h2
                  have a2 : ∀ j, j ≠ 8 → ad2 j = ad1 j := fun j h => hL.adq h
                  have hN2 : ∀ j, 24 + 4 * nb ≤ j → sh2 j = none := fun j hj => (k2 j (by omega) (by omega)).trans (hN1 j hj)
                  have h152 : sh2 15 = none := (k2 15 (by decide) (by decide)).trans h151
                  have S52 : lSt sh2 ad2 cO e0 5 8 (nb + 1) (fun k => 20 + 4 * insOd od P nb k) := hL.st (by decide) (lIns_od s53 hP) (fun j hj => by omega)
                  have Bb : xBu sh2 ad2 cI cZ (20 + 4 * nb) := Bb.tr (k2 _ (by omega) (by omega)) (k2 _ (by omega) (by omega)) (k2 _ (by omega) (by omega)) (k2 _ (by omega) (by omega)) (a2 _ (by omega)) (a2 _ (by omega)) (a2 _ (by omega))
                  have Dl : xDo sh2 ad2 cI := Dl.tr (fun j hj => k2 j (by omega) (by omega)) (fun j hj => a2 j (by omega))
                  have Pl : xPl sh2 ad2 cI cZ := Pl.tr (fun j hj => k2 j (by omega) (by omega)) (fun j hj => a2 j (by omega))
                  have Bs : ∀ k, k < nb → xBu sh2 ad2 cI cZ (20 + 4 * k) := fun k hk => (Bs k hk).tr (k2 _ (by omega) (by omega)) (k2 _ (by omega) (by omega)) (k2 _ (by omega) (by omega)) (k2 _ (by omega) (by omega)) (a2 _ (by omega)) (a2 _ (by omega)) (a2 _ (by omega))
                  have S4 : lSt sh2 ad2 cO e0 4 7 nb (fun k => 20 + 4 * k) := S4.tr (k2 4 (by decide) (by decide)) (k2 7 (by decide) (by decide)) (a2 7 (by decide)) (fun j hj => a2 _ (by omega))
                  have e_00 : ad1 0 = ad2 0 := (a2 0 (by decide)).symm
                  have e_bb : ad1 (20 + 4 * nb) = ad2 (20 + 4 * nb) := (a2 _ (by omega)).symm
                  have h42 : V4 4 2 = nI nb := by rw [e4, xu_ne _ _ _ (by decide), xu_ne _ _ _ (by decide)]; exact h43
                  refine W.eq (g2 := F0 m 167 ls []) rfl ?_
                  have hl : lv_has ls 7 [(6, .ref (ad2 (20 + 4 * nb))), (0, .ref (ad2 0)), (1, .int (nI n)), (2, .int y), (3, .int p0), (4, .int c0), (5, .int t0)] := lv_cast hl (by rw [e_00, e_bb])
                  refine lv_aload_n hx hb dX2_send_167 rfl (lv_at hl 1 rfl) ?_
                  refine d_getA B G Dl hin2 4 (by decide) (by decide +kernel) dX2_send_168 ?_
                  refine lv_aload hx hb dX2_send_171 (lv_at hl 0 rfl) ?_
                  obtain ⟨ea4, f4, s41, s42, s43⟩ := S4
                  refine x_callVa (rest := []) B E G (c_Jx4a65c_add_9ea2d l B.2.2.2.2.1 tO (N := 24 + 4 * nb) (by omega) hN2 V4 4 7 (20 + 4 * nb) nb ea4 (by decide) (by decide) (by omega) (by decide) (by omega) (by omega) h152 f4 s41 h42 hn40 s42 Bb.1 (fun j hj => ⟨20 + 4 * j, _, by omega, by omega, by omega, (Bs j hj).1, s43 j hj⟩) (by omega)) (cwV 1 B.1.2.2.2.2 gX2_send_Jx4a65c_add_9ea2d rfl rfl rfl (by decide +kernel) ⟨Nat.le_of_ble_eq_true rfl, Nat.le_of_ble_eq_true rfl⟩) (l_recv B G 4 s41) rfl hl.1 rfl (Nat.le_of_ble_eq_true rfl) ⟨by decide, by decide⟩ dX2_send_173 (fun v sh3 ad3 V5 H locs hR B G => ?_)
                  obtain ⟨rfl, hL⟩ := hR
                  have e5 := hL.Vq
                  have k3 : ∀ j, j ≠ 4 → j ≠ 7 → sh3 j = sh2 j := fun j h1 h2 => hL.shq h1 h2
                  have a3 : ∀ j, j ≠ 7 → ad3 j = ad2 j := fun j h => hL.adq h
                  have S43 : lSt sh3 ad3 cO e0 4 7 (nb + 1) (fun k => 20 + 4 * k) := hL.st (by decide) (lEnd_od s43) (fun j hj => by omega)
                  have S53 : lSt sh3 ad3 cO e0 5 8 (nb + 1) (fun k => 20 + 4 * insOd od P nb k) := S52.tr (k3 5 (by decide) (by decide)) (k3 8 (by decide) (by decide)) (a3 8 (by decide)) (fun j hj => a3 _ (by omega))
                  have Bb : xBu sh3 ad3 cI cZ (20 + 4 * nb) := Bb.tr (k3 _ (by omega) (by omega)) (k3 _ (by omega) (by omega)) (k3 _ (by omega) (by omega)) (k3 _ (by omega) (by omega)) (a3 _ (by omega)) (a3 _ (by omega)) (a3 _ (by omega))
                  have Dl : xDo sh3 ad3 cI := Dl.tr (fun j hj => k3 j (by omega) (by omega)) (fun j hj => a3 j (by omega))
                  have Pl : xPl sh3 ad3 cI cZ := Pl.tr (fun j hj => k3 j (by omega) (by omega)) (fun j hj => a3 j (by omega))
                  have Bs : ∀ k, k < nb + 1 → xBu sh3 ad3 cI cZ (20 + 4 * k) := fun k hk => by
                    rcases Nat.lt_or_ge k nb with c | c
                    · exact (Bs k c).tr (k3 _ (by omega) (by omega)) (k3 _ (by omega) (by omega)) (k3 _ (by omega) (by omega)) (k3 _ (by omega) (by omega)) (a3 _ (by omega)) (a3 _ (by omega)) (a3 _ (by omega))
                    · rw [show k = nb by omega]; exact Bb
                  have DW3 : xDw sh3 ad3 cI cZ cO tys e0 (nb + 1) (insOd od P nb) := ⟨Dl, Pl, S43, S53, Bs, insOd_lt od_lt hP, ⟨Cx.1, Cx.2.1, B.2.2.2.2.1⟩, tO, by omega, (k3 15 (by decide) (by decide)).trans h152, fun j hj => (k3 j (by omega) (by omega)).trans (hN2 j (by omega))⟩
                  have e_00 : ad2 0 = ad3 0 := (a3 0 (by decide)).symm
                  have e_bb : ad2 (20 + 4 * nb) = ad3 (20 + 4 * nb) := (a3 _ (by omega)).symm
                  have f_o : ∀ j, j < 20 + 4 * nb → j ≠ 4 → j ≠ 5 → V5 j = cRoomV V od n p0 nb j := fun j h1 h2 h3 => by
                    rw [e5, xu_ne _ _ _ h2, xu_ne _ _ _ h2, e4, xu_ne _ _ _ h3, xu_ne _ _ _ h3, bPut_o _ _ _ _ _ (by omega) (by omega), xu_ne _ _ _ (by omega)]
                    exact v_lo j h1
                  have f_h : ∀ j, 20 ≤ j → V5 j = (bPut (xu V1 (20 + 4 * nb) 7 (nI n)) (20 + 4 * nb) n c0 0) j := fun j h1 => by
                    rw [e5, xu_ne _ _ _ (by omega), xu_ne _ _ _ (by omega), e4, xu_ne _ _ _ (by omega), xu_ne _ _ _ (by omega)]
                  have f_b : V5 (20 + 4 * nb) = upd (upd (upd (upd (upd (upd (upd (upd (upd (fun _ => 0) 0 (nI nb)) 1 y) 2 p0) 3 (V 0 0 + t0)) 7 (-1)) 8 (-1)) 9 0) 10 (-1)) 7 (nI n) := by
                    rw [f_h _ (by omega), bPut_o _ _ _ _ _ (by omega) (by omega), xu_same, show V1 (20 + 4 * nb) = _ from v_hi 0, hb4]
                  have f_1 : V5 (20 + 4 * nb + 1) = upd (fun _ => 0) n c0 := by
                    rw [f_h _ (by omega)]; unfold bPut; rw [xu_ne _ _ _ (by omega), xu_same, xu_ne _ _ _ (by omega), v_hi 1, hb5]
                  have f_2 : V5 (20 + 4 * nb + 2) = upd (fun _ => 0) n 0 := by
                    rw [f_h _ (by omega)]; unfold bPut; rw [xu_same, xu_ne _ _ _ (by omega), xu_ne _ _ _ (by omega), v_hi 2, hb6]
                  have f_3 : V5 (20 + 4 * nb + 3) = (fun _ => 0) := by
                    rw [f_h _ (by omega), bPut_o _ _ _ _ _ (by omega) (by omega), xu_ne _ _ _ (by omega), v_hi 3, hb7]
                  have f_4 : V5 4 2 = nI (nb + 1) := by rw [e5, xu_row, if_pos rfl]
                  have f_5 : V5 5 2 = nI (nb + 1) := by rw [e5, xu_ne _ _ _ (by decide), xu_ne _ _ _ (by decide), e4, xu_row, if_pos rfl]
                  have bb : ∀ k, bBef V5 (20 + 4 * nb) (20 + 4 * k) = bBef (bPut (xu V1 (20 + 4 * nb) 7 (nI n)) (20 + 4 * nb) n c0 0) (20 + 4 * nb) (20 + 4 * k) := fun k => by unfold bBef; rw [f_h _ (by omega), f_h (20 + 4 * k) (by omega)]
                  have sp := cPlc_spec (bPut (xu V1 (20 + 4 * nb) 7 (nI n)) (20 + 4 * nb) n c0 0) od (20 + 4 * nb) nb
                  rw [← eP] at sp
                  refine W.eq (g2 := F0 m 176 ls [.int 1]) rfl ?_
                  have hl : lv_has ls 7 [(6, .ref (ad3 (20 + 4 * nb))), (0, .ref (ad3 0)), (1, .int (nI n)), (2, .int y), (3, .int p0), (4, .int c0), (5, .int t0)] := lv_cast hl (by rw [e_00, e_bb])
                  refine lv_pop hx hb dX2_send_176 rfl ?_
                  refine lv_aload hx hb dX2_send_177 (lv_at hl 0 rfl) ?_
                  refine b_getI B G Bb hin0 0 (by decide) (by decide +kernel) dX2_send_179 ?_
                  refine x_top (show _ = nI nb from (by rw [f_b]; rfl)) ?_
                  exact x_aendi hA B G (⟨P, rfl, hP, DW3, (e_00.symm.trans (a2 0 (by decide))).trans (a_lo 0 (by omega)), fun i i16 i20 => ⟨((k3 i (by omega) (by omega)).trans (k2 i (by omega) (by omega))).trans (k_lo i (by omega)), ((a3 i (by omega)).trans (a2 i (by omega))).trans (a_lo i (by omega))⟩, fun j hj => by rw [bb]; exact sp.1 j hj, fun h => by rw [bb]; exact sp.2 h, f_o, f_4, f_5, f_b, f_1, f_2, f_3⟩) (by decide) (by decide) dX2_send_182
                · exact False.elim (b2i_0.mp c_99 (hr))
              · exact False.elim (c_80 ((nI_ltI (a := nb) (b := 40) (by omega) (by omega)).mpr h40))
            · exact False.elim (b2i_0.mp c_58 (h.2.2.2))
    · exact False.elim (b2i_0.mp c_11 (hy7))
