/-! ACT -/
theorem lt_m1 {r : Int32} (h : r < -1) : r < 0 := by
  have t0 : (0 : Int32).toInt = 0 := by decide
  have t1 : (-1 : Int32).toInt = -1 := by decide
  rw [i_lt] at *
  omega
set_option maxRecDepth 100000 in
theorem act_tail {p : Program} {l : Launch} {e : Env} {s : State} {m : MethodId} {args : Array Value} {below : List Frame} {meth : Method} {c : Code} {A : Nat → Prop} {H : Heap} {locs : List Loc} {ls : Array Slot} {Q : State → Prop} {R : Room} {cells slots : Nat} {D : va_G} {sh : xS} {ad : Nat → Nat} {cI : ClassId} {tys : List (ClassId × FieldType)} {V : xV} {nb cc9 : Nat} (B : xB p s m args meth c cL_act 9 (some .int) wsL_act RL D sh ad A tys) (G : xG D sh ad A s.heap V H locs) (hT0 : tys[0]? = some (cI, .int)) (s16 : sh 16 = some (fun f => .inl (cI, 40, .inl f))) (hnb : nb < 40) (hl : lv_has ls 9 [(3, .ref (ad 16)), (7, .int (nI cc9))])
    (cont : ∀ (H : Heap) (locs : List Loc) (ls : Array Slot), xG D sh ad A s.heap (xu V 16 nb (nI cc9)) H locs → W p l e R s m args below meth c H locs cells slots Q (F0 m 78 ls [.int (nI nb)])) : W p l e R s m args below meth c H locs cells slots Q (F0 m 63 ls [.int (nI nb)]) := by
  have hx := B.1.1
  have hb := B.1.2.1
  refine lv_istore (lv' := [(8, .int (nI nb)), (3, .ref (ad 16)), (7, .int (nI cc9))]) hx hb dL_act_63 hl (by decide) rfl (fun ls hl => ?_)
  refine lv_iload hx hb dL_act_65 (lv_at hl 0 rfl) ?_
  refine lv_if_lt (tgt := 76) hx hb dL_act_67 (by decide) (fun c_67 => ?_) (fun c_67 => ?_)
  · exact False.elim (nI_pos (show nb < 2 ^ 31 by omega) c_67)
  · refine lv_aload_n hx hb dL_act_70 rfl (lv_at hl 1 rfl) ?_
    refine lv_iload hx hb dL_act_71 (lv_at hl 0 rfl) ?_
    refine lv_iload hx hb dL_act_73 (lv_at hl 2 rfl) ?_
    refine x_ast B G 16 s16 0 hT0 nb (show nb < 40 from hnb) rfl (by decide) dL_act_75 (fun H locs G => ?_)
    refine lv_iload hx hb dL_act_76 (lv_at hl 0 rfl) ?_
    exact cont _ _ _ G
theorem cBits_xu (V : xV) (i k : Nat) (x : Int32) {b : Nat} (h : b + 1 ≠ i) : cBits (xu V i k x) b 8 = cBits V b 8 := by
  rw [bOr_c, bOr_c, xu_ne _ _ _ h]
theorem act_sent {cI cZ cO : ClassId} {tys : List (ClassId × FieldType)} {e0 t nb nc : Nat} {od S od' : Nat → Nat} {sh sh' : xS} {ad ad' : Nat → Nat} {V V' : xV} {cc9 : Nat} (hL : LwS cI cZ cO tys e0 t nb nc od S sh ad V) (DW : xDw sh' ad' cI cZ cO tys e0 (nb + 1) od') (hI : INV (t + 1) (nb + 1) nc od' (fun k => if k = nb then cc9 else S k) V') (k16 : ∀ i, 16 ≤ i → i < 20 → sh' i = sh i ∧ ad' i = ad i) (lo : ∀ i, i < 20 → i ≠ 2 → i ≠ 4 → i ≠ 5 → V' i = V i) :
    LwS cI cZ cO tys e0 (t + 1) (nb + 1) nc od' (fun k => if k = nb then cc9 else S k) sh' ad' (xu V' 16 nb (nI cc9)) := by
  obtain ⟨h1, h2, h3, h4, h5, h6⟩ := hL
  refine ⟨DW, hI.sc (fun i hi => xu_ne _ _ _ (by omega)), (k16 16 (by decide) (by decide)).1.trans h3, (k16 17 (by decide) (by decide)).1.trans h4, fun k hk => ?_, fun n hn => ?_⟩
  · rw [xu_row]
    show (if k = nb then nI cc9 else V' 16 k) = nI (if k = nb then cc9 else S k)
    by_cases e : k = nb
    · rw [if_pos e, if_pos e]
    · rw [if_neg e, if_neg e, lo 16 (by decide) (by decide) (by decide) (by decide)]
      exact h5 k (by omega)
  · rw [xu_ne _ _ _ (by decide), xu_ne _ _ _ (by decide), lo 17 (by decide) (by decide) (by decide) (by decide), lo 1 (by decide) (by decide) (by decide) (by decide)]
    exact h6 n hn
theorem act_buf {cI cZ cO : ClassId} {tys : List (ClassId × FieldType)} {e0 t nb nc : Nat} {od S : Nat → Nat} {sh : xS} {ad : Nat → Nat} {V V' : xV} {u q : Nat} (hL : LwS cI cZ cO tys e0 t nb nc od S sh ad V) (e : V' = xu V 1 u (nI q)) (hI : INV (t + 1) nb nc od S V') : LwS cI cZ cO tys e0 (t + 1) nb nc od S sh ad (xu V' 17 u (nI q)) := by
  obtain ⟨h1, h2, h3, h4, h5, h6⟩ := hL
  refine ⟨h1, hI.sc (fun i hi => xu_ne _ _ _ (by omega)), h3, h4, fun k hk => ?_, fun n hn => ?_⟩
  · rw [xu_ne _ _ _ (by decide), e, xu_ne _ _ _ (by decide)]
    exact h5 k hk
  · rw [xu_row, xu_ne _ _ _ (show (1 : Nat) ≠ 17 by decide), e, xu_row, xu_ne _ _ _ (show (17 : Nat) ≠ 1 by decide), h6 n hn]
set_option maxHeartbeats 4000000 in
set_option maxRecDepth 100000 in
theorem c_L_act (l : Launch) (hst : l.stackTraces = false) {D : va_G} {sh : xS} {ad : Nat → Nat} {cI cZ cO : ClassId} {tys : List (ClassId × FieldType)} {t nb nc : Nat} {od S : Nat → Nat} {mi e0 : Nat} {sa : Nat → Nat} (V : xV) (hL : LwS cI cZ cO tys e0 t nb nc od S sh ad V) (ht : t ≤ 100000) (kd : Nat) (hkd : kd < 13) (x : Int32) : xMl l yL_act wsL_act (rmLw 8 180) D sh ad tys mi e0 sa V [.ref (ad 0), .int (nI kd), .int x, .ref (ad 16), .ref (ad 17)] (AR cI cZ cO tys e0 t nb kd x sh ad V) := by
  obtain ⟨DW, hI, s16, s17, h16, h17⟩ := id hL
  have DL := DW.dl
  refine xOfl (cc := cL_act) (nL := 9) (ret := some .int) (own := RL) (by decide) rfl rfl (Nat.le_of_ble_eq_true rfl) DL.2.2.2.2.2.2.1.2.2 ?_
  intro p e s m args below meth c A ls hA B E F hN G hl
  have hx := B.1.1
  have hb := B.1.2.1
  have hT0 := DL.2.2.2.2.2.2.1.1
  have h40 := DL.2.2.2.2.2.2.2.2
  have hu9 : lowN x % 9 < 9 := Nat.mod_lt _ (by decide)
  have hv8 : lowN (x >>> ((4 : Int32) &&& 31)) % 8 < 8 := Nat.mod_lt _ (by decide)
  have hl : lv_has ls 9 [(0, .ref (ad 0)), (1, .int (nI kd)), (2, .int x), (3, .ref (ad 16)), (4, .ref (ad 17))] := hl
  refine lv_iload_n hx hb dL_act_0 rfl (lv_at hl 2 rfl) ?_
  refine lv_bipush (v := 9) hx hb dL_act_1 (by decide) ?_
  refine x_callSi (rest := []) B G (c_L_low l B.2.2.2.2.1 V x 9 (by decide) (by decide)) (va_cwS 2 B.1.2.2.2.2 gL_act_L_low rfl rfl rfl (by decide +kernel) ⟨Nat.le_of_ble_eq_true rfl, Nat.le_of_ble_eq_true rfl⟩) rfl hl.1 rfl (Nat.le_of_ble_eq_true rfl) ⟨Nat.le_of_ble_eq_true rfl, Nat.le_of_ble_eq_true rfl⟩ dL_act_3 (fun H locs G => ?_)
  refine lv_istore (lv' := [(5, .int (nI (lowN x % 9))), (0, .ref (ad 0)), (1, .int (nI kd)), (2, .int x), (3, .ref (ad 16)), (4, .ref (ad 17))]) hx hb dL_act_6 hl (by decide) rfl (fun ls hl => ?_)
  refine lv_iload_n hx hb dL_act_8 rfl (lv_at hl 3 rfl) ?_
  refine lv_iconst (v := 4) hx hb dL_act_9 (by decide) ?_
  refine lv_ishr hx hb dL_act_10 ?_
  refine lv_bipush (v := 8) hx hb dL_act_11 (by decide) ?_
  refine x_callSi (rest := []) B G (c_L_low l B.2.2.2.2.1 V (x >>> ((4 : Int32) &&& 31)) 8 (by decide) (by decide)) (va_cwS 2 B.1.2.2.2.2 gL_act_L_low rfl rfl rfl (by decide +kernel) ⟨Nat.le_of_ble_eq_true rfl, Nat.le_of_ble_eq_true rfl⟩) rfl hl.1 rfl (Nat.le_of_ble_eq_true rfl) ⟨Nat.le_of_ble_eq_true rfl, Nat.le_of_ble_eq_true rfl⟩ dL_act_13 (fun H locs G => ?_)
  refine lv_istore (lv' := [(6, .int (nI (lowN (x >>> ((4 : Int32) &&& 31)) % 8))), (5, .int (nI (lowN x % 9))), (0, .ref (ad 0)), (1, .int (nI kd)), (2, .int x), (3, .ref (ad 16)), (4, .ref (ad 17))]) hx hb dL_act_16 hl (by decide) rfl (fun ls hl => ?_)
  refine lv_iload_n hx hb dL_act_18 rfl (lv_at hl 3 rfl) ?_
  refine lv_iconst (v := 4) hx hb dL_act_19 (by decide) ?_
  refine lv_icmp_ge (tgt := 79) hx hb dL_act_20 (by decide) (fun c_20 => ?_) (fun c_20 => ?_)
  · skip
    have c_20 : 4 ≤ kd := (nI_leI (a := 4) (b := kd) (by omega) (by omega)).mp c_20
    refine lv_iload_n hx hb dL_act_79 rfl (lv_at hl 3 rfl) ?_
    refine lv_bipush (v := 9) hx hb dL_act_80 (by decide) ?_
    refine lv_icmp_ge (tgt := 125) hx hb dL_act_82 (by decide) (fun c_82 => ?_) (fun c_82 => ?_)
    · skip
      have c_82 : 9 ≤ kd := (nI_leI (a := 9) (b := kd) (by omega) (by omega)).mp c_82
      refine lv_iload_n hx hb dL_act_125 rfl (lv_at hl 3 rfl) ?_
      refine lv_bipush (v := 9) hx hb dL_act_126 (by decide) ?_
      refine lv_icmp_ne (tgt := 142) hx hb dL_act_128 (by decide) (fun c_128 => ?_) (fun c_128 => ?_)
      · skip
        have c_128 : ¬ (kd = 9) := fun h9 => c_128 ((nI_eq (a := kd) (b := 9) (by omega) (by omega)).mpr h9)
        refine lv_iload_n hx hb dL_act_142 rfl (lv_at hl 3 rfl) ?_
        refine lv_bipush (v := 10) hx hb dL_act_143 (by decide) ?_
        refine lv_icmp_ne (tgt := 187) hx hb dL_act_145 (by decide) (fun c_145 => ?_) (fun c_145 => ?_)
        · skip
          have c_145 : ¬ (kd = 10) := fun h9 => c_145 ((nI_eq (a := kd) (b := 10) (by omega) (by omega)).mpr h9)
          refine lv_iload_n hx hb dL_act_187 rfl (lv_at hl 4 rfl) ?_
          refine lv_bipush (v := 7) hx hb dL_act_188 (by decide) ?_
          refine lv_ishr hx hb dL_act_190 ?_
          refine lv_bipush (v := 90) hx hb dL_act_191 (by decide) ?_
          refine x_callSi (rest := []) B G (c_L_low l B.2.2.2.2.1 V (x >>> ((7 : Int32) &&& 31)) 90 (by decide) (by decide)) (va_cwS 2 B.1.2.2.2.2 gL_act_L_low rfl rfl rfl (by decide +kernel) ⟨Nat.le_of_ble_eq_true rfl, Nat.le_of_ble_eq_true rfl⟩) rfl hl.1 rfl (Nat.le_of_ble_eq_true rfl) ⟨Nat.le_of_ble_eq_true rfl, Nat.le_of_ble_eq_true rfl⟩ dL_act_193 (fun H locs G => ?_)
          refine lv_istore (lv' := [(7, .int (nI (lowN (x >>> ((7 : Int32) &&& 31)) % 90))), (6, .int (nI (lowN (x >>> ((4 : Int32) &&& 31)) % 8))), (5, .int (nI (lowN x % 9))), (0, .ref (ad 0)), (1, .int (nI kd)), (2, .int x), (3, .ref (ad 16)), (4, .ref (ad 17))]) hx hb dL_act_196 hl (by decide) rfl (fun ls hl => ?_)
          refine lv_aload_n hx hb dL_act_198 rfl (lv_at hl 3 rfl) ?_
          refine lv_iload hx hb dL_act_199 (lv_at hl 2 rfl) ?_
          refine lv_iload hx hb dL_act_201 (lv_at hl 1 rfl) ?_
          refine lv_iload hx hb dL_act_203 (lv_at hl 0 rfl) ?_
          refine lv_iload hx hb dL_act_205 (lv_at hl 0 rfl) ?_
          refine lv_iconst (v := 1) hx hb dL_act_207 (by decide) ?_
          refine lv_isub hx hb dL_act_208 ?_
          refine lv_iload_n hx hb dL_act_209 rfl (lv_at hl 5 rfl) ?_
          refine lv_bipush (v := 14) hx hb dL_act_210 (by decide) ?_
          refine lv_ishr hx hb dL_act_212 ?_
          refine lv_bipush (v := 25) hx hb dL_act_213 (by decide) ?_
          refine x_callSi (rest := [.int ((nI (lowN (x >>> ((7 : Int32) &&& 31)) % 90)) - 1), .int (nI (lowN (x >>> ((7 : Int32) &&& 31)) % 90)), .int (nI (lowN (x >>> ((4 : Int32) &&& 31)) % 8)), .int (nI (lowN x % 9)), .ref (ad 0)]) B G (c_L_low l B.2.2.2.2.1 V (x >>> ((14 : Int32) &&& 31)) 25 (by decide) (by decide)) (va_cwS 2 B.1.2.2.2.2 gL_act_L_low rfl rfl rfl (by decide +kernel) ⟨Nat.le_of_ble_eq_true rfl, Nat.le_of_ble_eq_true rfl⟩) rfl hl.1 rfl (Nat.le_of_ble_eq_true rfl) ⟨Nat.le_of_ble_eq_true rfl, Nat.le_of_ble_eq_true rfl⟩ dL_act_215 (fun H locs G => ?_)
          refine lv_iadd hx hb dL_act_218 ?_
          refine x_callSw (rest := []) B E F hN G (W_contact hst hL (u := lowN x % 9) (v := lowN (x >>> ((4 : Int32) &&& 31)) % 8) (kd := kd) hu9 hv8 (by omega) x (nI (lowN (x >>> ((7 : Int32) &&& 31)) % 90)) (((nI (lowN (x >>> ((7 : Int32) &&& 31)) % 90)) - 1) + (nI (lowN (x >>> ((14 : Int32) &&& 31)) % 25)))) (vx_cwSW 5 B.1.2.2.2.2 gL_act_L_contact rfl rfl rfl (by decide +kernel) ⟨Nat.le_of_ble_eq_true rfl, Nat.le_of_ble_eq_true rfl⟩) rfl hl.1 rfl (Nat.le_of_ble_eq_true rfl) ⟨Nat.le_of_ble_eq_true rfl, Nat.le_of_ble_eq_true rfl⟩ dL_act_219 (fun v sh9 ad9 V9 H locs hR B G => ?_)
          obtain ⟨r, hv9, hR9⟩ := hR
          subst hv9
          refine W.eq (g2 := F0 m 222 ls [.int r]) rfl ?_
          exact x_aendi hA B G (⟨r, rfl, hR9⟩) (Nat.le_of_ble_eq_true rfl) (Nat.le_of_ble_eq_true rfl) dL_act_222
        · skip
          have c_145 : kd = 10 := (nI_eq (a := kd) (b := 10) (by omega) (by omega)).mp c_145
          refine lv_aload_n hx hb dL_act_148 rfl (lv_at hl 2 rfl) ?_
          refine lv_iload hx hb dL_act_149 (lv_at hl 1 rfl) ?_
          refine lv_iload_n hx hb dL_act_151 rfl (lv_at hl 4 rfl) ?_
          refine lv_bipush (v := 8) hx hb dL_act_152 (by decide) ?_
          refine lv_ishr hx hb dL_act_154 ?_
          refine lv_bipush (v := 9) hx hb dL_act_155 (by decide) ?_
          refine x_callSi (rest := [.int (nI (lowN x % 9)), .ref (ad 0)]) B G (c_L_low l B.2.2.2.2.1 V (x >>> ((8 : Int32) &&& 31)) 9 (by decide) (by decide)) (va_cwS 2 B.1.2.2.2.2 gL_act_L_low rfl rfl rfl (by decide +kernel) ⟨Nat.le_of_ble_eq_true rfl, Nat.le_of_ble_eq_true rfl⟩) rfl hl.1 rfl (Nat.le_of_ble_eq_true rfl) ⟨Nat.le_of_ble_eq_true rfl, Nat.le_of_ble_eq_true rfl⟩ dL_act_157 (fun H locs G => ?_)
          have hq9 : lowN (x >>> ((8 : Int32) &&& 31)) % 9 < 9 := Nat.mod_lt _ (by decide)
          have e_kd : kd = 10 := by omega
          refine x_callSw (rest := []) B E F hN G (W_buffer hst hL (u := lowN x % 9) (q := lowN (x >>> ((8 : Int32) &&& 31)) % 9) hu9 hq9) (vx_cwSW 3 B.1.2.2.2.2 gL_act_L_buffer rfl rfl rfl (by decide +kernel) ⟨Nat.le_of_ble_eq_true rfl, Nat.le_of_ble_eq_true rfl⟩) rfl hl.1 rfl (Nat.le_of_ble_eq_true rfl) ⟨Nat.le_of_ble_eq_true rfl, Nat.le_of_ble_eq_true rfl⟩ dL_act_160 (fun v sh9 ad9 V9 H locs hR B G => ?_)
          obtain ⟨h91, h92, r, hv9, hR9⟩ := hR
          rw [h91, h92] at G
          rw [h91, h92] at B
          subst hv9
          refine W.eq (g2 := F0 m 163 ls [.int r]) rfl ?_
          rcases hR9 with ⟨hr, h93⟩ | ⟨hu8, ⟨m9, m91, m92, hr⟩, h93, hI9⟩
          · rw [h93] at G
            refine lv_istore (lv' := [(7, .int r), (6, .int (nI (lowN (x >>> ((4 : Int32) &&& 31)) % 8))), (5, .int (nI (lowN x % 9))), (0, .ref (ad 0)), (1, .int (nI kd)), (2, .int x), (3, .ref (ad 16)), (4, .ref (ad 17))]) hx hb dL_act_163 hl (by decide) rfl (fun ls hl => ?_)
            refine lv_iload hx hb dL_act_165 (lv_at hl 0 rfl) ?_
            refine lv_if_lt (tgt := 184) hx hb dL_act_167 (by decide) (fun c_167 => ?_) (fun c_167 => ?_)
            · skip
              refine lv_iload hx hb dL_act_184 (lv_at hl 0 rfl) ?_
              exact x_aendi hA B G (⟨r, rfl, Or.inl ⟨hr, rfl, rfl, rfl⟩⟩) (Nat.le_of_ble_eq_true rfl) (Nat.le_of_ble_eq_true rfl) dL_act_186
            · exact False.elim (c_167 (lt_m1 hr))
          · skip
            refine lv_istore (lv' := [(7, .int r), (6, .int (nI (lowN (x >>> ((4 : Int32) &&& 31)) % 8))), (5, .int (nI (lowN x % 9))), (0, .ref (ad 0)), (1, .int (nI kd)), (2, .int x), (3, .ref (ad 16)), (4, .ref (ad 17))]) hx hb dL_act_163 hl (by decide) rfl (fun ls hl => ?_)
            refine lv_iload hx hb dL_act_165 (lv_at hl 0 rfl) ?_
            refine lv_if_lt (tgt := 184) hx hb dL_act_167 (by decide) (fun c_167 => ?_) (fun c_167 => ?_)
            · exact False.elim (nI_pos (show m9 < 2 ^ 31 by omega) (by rw [← hr]; exact c_167))
            · skip
              refine lv_aload hx hb dL_act_170 (lv_at hl 7 rfl) ?_
              refine lv_iload hx hb dL_act_172 (lv_at hl 2 rfl) ?_
              refine lv_iload_n hx hb dL_act_174 rfl (lv_at hl 5 rfl) ?_
              refine lv_bipush (v := 8) hx hb dL_act_175 (by decide) ?_
              refine lv_ishr hx hb dL_act_177 ?_
              refine lv_bipush (v := 9) hx hb dL_act_178 (by decide) ?_
              refine x_callSi (rest := [.int (nI (lowN x % 9)), .ref (ad 17)]) B G (c_L_low l B.2.2.2.2.1 V9 (x >>> ((8 : Int32) &&& 31)) 9 (by decide) (by decide)) (va_cwS 2 B.1.2.2.2.2 gL_act_L_low rfl rfl rfl (by decide +kernel) ⟨Nat.le_of_ble_eq_true rfl, Nat.le_of_ble_eq_true rfl⟩) rfl hl.1 rfl (Nat.le_of_ble_eq_true rfl) ⟨Nat.le_of_ble_eq_true rfl, Nat.le_of_ble_eq_true rfl⟩ dL_act_180 (fun H locs G => ?_)
              refine x_ast B G 17 s17 0 hT0 (lowN x % 9) (show (lowN x % 9) < 8 from hu8) rfl (by decide) dL_act_183 (fun H locs G => ?_)
              refine lv_iload hx hb dL_act_184 (lv_at hl 0 rfl) ?_
              exact x_aendi hA B G (⟨r, rfl, Or.inr ⟨nb, nc, od, S, act_buf hL h93 hI9, KR.same (by rw [xu_ne _ _ _ (by decide), h93, xu_ne _ _ _ (by decide)]), Or.inr (Or.inr (Or.inr (Or.inl ⟨e_kd, m9, m91, m92, hr⟩)))⟩⟩) (Nat.le_of_ble_eq_true rfl) (Nat.le_of_ble_eq_true rfl) dL_act_186
      · skip
        have c_128 : kd = 9 := (nI_eq (a := kd) (b := 9) (by omega) (by omega)).mp c_128
        refine lv_aload_n hx hb dL_act_131 rfl (lv_at hl 2 rfl) ?_
        refine lv_iload_n hx hb dL_act_132 rfl (lv_at hl 4 rfl) ?_
        refine lv_bipush (v := 30) hx hb dL_act_133 (by decide) ?_
        refine x_callSi (rest := [.ref (ad 0)]) B G (c_L_low l B.2.2.2.2.1 V x 30 (by decide) (by decide)) (va_cwS 2 B.1.2.2.2.2 gL_act_L_low rfl rfl rfl (by decide +kernel) ⟨Nat.le_of_ble_eq_true rfl, Nat.le_of_ble_eq_true rfl⟩) rfl hl.1 rfl (Nat.le_of_ble_eq_true rfl) ⟨Nat.le_of_ble_eq_true rfl, Nat.le_of_ble_eq_true rfl⟩ dL_act_135 (fun H locs G => ?_)
        have e_kd : kd = 9 := by omega
        refine x_callSw (rest := []) B E F hN G (W_pass hst hL ht x) (vx_cwSW 2 B.1.2.2.2.2 gL_act_L_pass rfl rfl rfl (by decide +kernel) ⟨Nat.le_of_ble_eq_true rfl, Nat.le_of_ble_eq_true rfl⟩) rfl hl.1 rfl (Nat.le_of_ble_eq_true rfl) ⟨Nat.le_of_ble_eq_true rfl, Nat.le_of_ble_eq_true rfl⟩ dL_act_138 (fun v sh9 ad9 V9 H locs hR B G => ?_)
        obtain ⟨r, hv9, hR9⟩ := hR
        subst hv9
        refine W.eq (g2 := F0 m 141 ls [.int r]) rfl ?_
        exact x_aendi hA B G (⟨r, rfl, by rw [e_kd]; exact hR9⟩) (Nat.le_of_ble_eq_true rfl) (Nat.le_of_ble_eq_true rfl) dL_act_141
    · skip
      have c_82 : ¬ (9 ≤ kd) := fun h9 => c_82 ((nI_leI (a := 9) (b := kd) (by omega) (by omega)).mpr h9)
      refine lv_aload_n hx hb dL_act_85 rfl (lv_at hl 2 rfl) ?_
      refine lv_iload hx hb dL_act_86 (lv_at hl 1 rfl) ?_
      refine lv_iload hx hb dL_act_88 (lv_at hl 0 rfl) ?_
      refine lv_iload_n hx hb dL_act_90 rfl (lv_at hl 4 rfl) ?_
      refine lv_bipush (v := 8) hx hb dL_act_91 (by decide) ?_
      refine lv_ishr hx hb dL_act_93 ?_
      refine lv_iconst (v := 3) hx hb dL_act_94 (by decide) ?_
      refine x_callSi (rest := [.int (nI (lowN (x >>> ((4 : Int32) &&& 31)) % 8)), .int (nI (lowN x % 9)), .ref (ad 0)]) B G (c_L_low l B.2.2.2.2.1 V (x >>> ((8 : Int32) &&& 31)) 3 (by decide) (by decide)) (va_cwS 2 B.1.2.2.2.2 gL_act_L_low rfl rfl rfl (by decide +kernel) ⟨Nat.le_of_ble_eq_true rfl, Nat.le_of_ble_eq_true rfl⟩) rfl hl.1 rfl (Nat.le_of_ble_eq_true rfl) ⟨Nat.le_of_ble_eq_true rfl, Nat.le_of_ble_eq_true rfl⟩ dL_act_95 (fun H locs G => ?_)
      refine lv_if_ne (tgt := 112) hx hb dL_act_98 (by decide) (fun c_98 => ?_) (fun c_98 => ?_)
      · skip
        refine lv_iload_n hx hb dL_act_112 rfl (lv_at hl 4 rfl) ?_
        refine lv_bipush (v := 10) hx hb dL_act_113 (by decide) ?_
        refine lv_ishr hx hb dL_act_115 ?_
        refine lv_bipush (v := 22) hx hb dL_act_116 (by decide) ?_
        refine x_callSi (rest := [.int (nI (lowN (x >>> ((4 : Int32) &&& 31)) % 8)), .int (nI (lowN x % 9)), .ref (ad 0)]) B G (c_L_low l B.2.2.2.2.1 V (x >>> ((10 : Int32) &&& 31)) 22 (by decide) (by decide)) (va_cwS 2 B.1.2.2.2.2 gL_act_L_low rfl rfl rfl (by decide +kernel) ⟨Nat.le_of_ble_eq_true rfl, Nat.le_of_ble_eq_true rfl⟩) rfl hl.1 rfl (Nat.le_of_ble_eq_true rfl) ⟨Nat.le_of_ble_eq_true rfl, Nat.le_of_ble_eq_true rfl⟩ dL_act_118 (fun H locs G => ?_)
        have hmo : lowN (x >>> ((10 : Int32) &&& 31)) % 22 < 22 := by have z : lowN (x >>> ((10 : Int32) &&& 31)) % 22 < 22 := Nat.mod_lt _ (by decide); omega
        refine x_callSw (rest := []) B E F hN G (W_meet hst hL ht (u := lowN x % 9) (v := lowN (x >>> ((4 : Int32) &&& 31)) % 8) (mo := lowN (x >>> ((10 : Int32) &&& 31)) % 22) (kd := kd) hu9 hv8 hmo (by omega) x) (vx_cwSW 4 B.1.2.2.2.2 gL_act_L_meet rfl rfl rfl (by decide +kernel) ⟨Nat.le_of_ble_eq_true rfl, Nat.le_of_ble_eq_true rfl⟩) rfl hl.1 rfl (Nat.le_of_ble_eq_true rfl) ⟨Nat.le_of_ble_eq_true rfl, Nat.le_of_ble_eq_true rfl⟩ dL_act_121 (fun v sh9 ad9 V9 H locs hR B G => ?_)
        obtain ⟨r, hv9, hR9⟩ := hR
        subst hv9
        refine W.eq (g2 := F0 m 124 ls [.int r]) rfl ?_
        exact x_aendi hA B G (⟨r, rfl, hR9⟩) (Nat.le_of_ble_eq_true rfl) (Nat.le_of_ble_eq_true rfl) dL_act_124
      · skip
        refine lv_iload_n hx hb dL_act_101 rfl (lv_at hl 4 rfl) ?_
        refine lv_bipush (v := 10) hx hb dL_act_102 (by decide) ?_
        refine lv_ishr hx hb dL_act_104 ?_
        refine lv_iconst (v := 4) hx hb dL_act_105 (by decide) ?_
        refine x_callSi (rest := [.int (nI (lowN (x >>> ((4 : Int32) &&& 31)) % 8)), .int (nI (lowN x % 9)), .ref (ad 0)]) B G (c_L_low l B.2.2.2.2.1 V (x >>> ((10 : Int32) &&& 31)) 4 (by decide) (by decide)) (va_cwS 2 B.1.2.2.2.2 gL_act_L_low rfl rfl rfl (by decide +kernel) ⟨Nat.le_of_ble_eq_true rfl, Nat.le_of_ble_eq_true rfl⟩) rfl hl.1 rfl (Nat.le_of_ble_eq_true rfl) ⟨Nat.le_of_ble_eq_true rfl, Nat.le_of_ble_eq_true rfl⟩ dL_act_106 (fun H locs G => ?_)
        refine lv_goto (tgt := 121) hx hb dL_act_109 (by decide) ?_
        have hmo : lowN (x >>> ((10 : Int32) &&& 31)) % 4 < 22 := by have z : lowN (x >>> ((10 : Int32) &&& 31)) % 4 < 4 := Nat.mod_lt _ (by decide); omega
        refine x_callSw (rest := []) B E F hN G (W_meet hst hL ht (u := lowN x % 9) (v := lowN (x >>> ((4 : Int32) &&& 31)) % 8) (mo := lowN (x >>> ((10 : Int32) &&& 31)) % 4) (kd := kd) hu9 hv8 hmo (by omega) x) (vx_cwSW 4 B.1.2.2.2.2 gL_act_L_meet rfl rfl rfl (by decide +kernel) ⟨Nat.le_of_ble_eq_true rfl, Nat.le_of_ble_eq_true rfl⟩) rfl hl.1 rfl (Nat.le_of_ble_eq_true rfl) ⟨Nat.le_of_ble_eq_true rfl, Nat.le_of_ble_eq_true rfl⟩ dL_act_121 (fun v sh9 ad9 V9 H locs hR B G => ?_)
        obtain ⟨r, hv9, hR9⟩ := hR
        subst hv9
        refine W.eq (g2 := F0 m 124 ls [.int r]) rfl ?_
        exact x_aendi hA B G (⟨r, rfl, hR9⟩) (Nat.le_of_ble_eq_true rfl) (Nat.le_of_ble_eq_true rfl) dL_act_124
  · skip
    have c_20 : ¬ (4 ≤ kd) := fun h9 => c_20 ((nI_leI (a := 4) (b := kd) (by omega) (by omega)).mpr h9)
    refine lv_iload_n hx hb dL_act_23 rfl (lv_at hl 4 rfl) ?_
    refine lv_bipush (v := 8) hx hb dL_act_24 (by decide) ?_
    refine lv_ishr hx hb dL_act_26 ?_
    refine lv_bipush (v := 12) hx hb dL_act_27 (by decide) ?_
    refine x_callSi (rest := []) B G (c_L_low l B.2.2.2.2.1 V (x >>> ((8 : Int32) &&& 31)) 12 (by decide) (by decide)) (va_cwS 2 B.1.2.2.2.2 gL_act_L_low rfl rfl rfl (by decide +kernel) ⟨Nat.le_of_ble_eq_true rfl, Nat.le_of_ble_eq_true rfl⟩) rfl hl.1 rfl (Nat.le_of_ble_eq_true rfl) ⟨Nat.le_of_ble_eq_true rfl, Nat.le_of_ble_eq_true rfl⟩ dL_act_29 (fun H locs G => ?_)
    refine lv_istore (lv' := [(7, .int (nI (lowN (x >>> ((8 : Int32) &&& 31)) % 12))), (6, .int (nI (lowN (x >>> ((4 : Int32) &&& 31)) % 8))), (5, .int (nI (lowN x % 9))), (0, .ref (ad 0)), (1, .int (nI kd)), (2, .int x), (3, .ref (ad 16)), (4, .ref (ad 17))]) hx hb dL_act_32 hl (by decide) rfl (fun ls hl => ?_)
    refine lv_aload_n hx hb dL_act_34 rfl (lv_at hl 3 rfl) ?_
    refine lv_iload hx hb dL_act_35 (lv_at hl 2 rfl) ?_
    refine lv_iload hx hb dL_act_37 (lv_at hl 1 rfl) ?_
    refine lv_iload_n hx hb dL_act_39 rfl (lv_at hl 5 rfl) ?_
    refine lv_bipush (v := 12) hx hb dL_act_40 (by decide) ?_
    refine lv_ishr hx hb dL_act_42 ?_
    refine lv_iconst (v := 3) hx hb dL_act_43 (by decide) ?_
    refine x_callSi (rest := [.int (nI (lowN (x >>> ((4 : Int32) &&& 31)) % 8)), .int (nI (lowN x % 9)), .ref (ad 0)]) B G (c_L_low l B.2.2.2.2.1 V (x >>> ((12 : Int32) &&& 31)) 3 (by decide) (by decide)) (va_cwS 2 B.1.2.2.2.2 gL_act_L_low rfl rfl rfl (by decide +kernel) ⟨Nat.le_of_ble_eq_true rfl, Nat.le_of_ble_eq_true rfl⟩) rfl hl.1 rfl (Nat.le_of_ble_eq_true rfl) ⟨Nat.le_of_ble_eq_true rfl, Nat.le_of_ble_eq_true rfl⟩ dL_act_44 (fun H locs G => ?_)
    refine lv_iload hx hb dL_act_47 (lv_at hl 0 rfl) ?_
    refine lv_iconst (v := 1) hx hb dL_act_49 (by decide) ?_
    refine lv_iload_n hx hb dL_act_50 rfl (lv_at hl 5 rfl) ?_
    refine lv_bipush (v := 14) hx hb dL_act_51 (by decide) ?_
    refine lv_ishr hx hb dL_act_53 ?_
    refine lv_bipush (v := 90) hx hb dL_act_54 (by decide) ?_
    refine x_callSi (rest := [.int 1, .int (nI (lowN (x >>> ((8 : Int32) &&& 31)) % 12)), .int (nI (lowN (x >>> ((12 : Int32) &&& 31)) % 3)), .int (nI (lowN (x >>> ((4 : Int32) &&& 31)) % 8)), .int (nI (lowN x % 9)), .ref (ad 0)]) B G (c_L_low l B.2.2.2.2.1 V (x >>> ((14 : Int32) &&& 31)) 90 (by decide) (by decide)) (va_cwS 2 B.1.2.2.2.2 gL_act_L_low rfl rfl rfl (by decide +kernel) ⟨Nat.le_of_ble_eq_true rfl, Nat.le_of_ble_eq_true rfl⟩) rfl hl.1 rfl (Nat.le_of_ble_eq_true rfl) ⟨Nat.le_of_ble_eq_true rfl, Nat.le_of_ble_eq_true rfl⟩ dL_act_56 (fun H locs G => ?_)
    refine lv_iadd hx hb dL_act_59 ?_
    refine x_top (show 1 + (nI (lowN (x >>> ((14 : Int32) &&& 31)) % 90)) = nI (1 + (lowN (x >>> ((14 : Int32) &&& 31)) % 90)) from nI_add 1 (lowN (x >>> ((14 : Int32) &&& 31)) % 90)) ?_
    refine x_callSw (rest := []) B E F hN G (W_send hst hL ht (u := lowN x % 9) (v := lowN (x >>> ((4 : Int32) &&& 31)) % 8) (p := lowN (x >>> ((12 : Int32) &&& 31)) % 3) (c := lowN (x >>> ((8 : Int32) &&& 31)) % 12) (d := lowN (x >>> ((14 : Int32) &&& 31)) % 90) hu9 hv8 (Nat.mod_lt _ (by decide)) (Nat.mod_lt _ (by decide)) (Nat.mod_lt _ (by decide))) (vx_cwSW 6 B.1.2.2.2.2 gL_act_L_send rfl rfl rfl (by decide +kernel) ⟨Nat.le_of_ble_eq_true rfl, Nat.le_of_ble_eq_true rfl⟩) rfl hl.1 rfl (Nat.le_of_ble_eq_true rfl) ⟨Nat.le_of_ble_eq_true rfl, Nat.le_of_ble_eq_true rfl⟩ dL_act_60 (fun v sh9 ad9 V9 H locs hR B G => ?_)
    obtain ⟨r, hv9, hR9⟩ := hR
    subst hv9
    refine W.eq (g2 := F0 m 63 ls [.int r]) rfl ?_
    rcases hR9 with ⟨hr, h91, h92, h93⟩ | ⟨hr, hn40, od', DW9, hI9, e09, k16, lo, f7, fb, f8, f9⟩
    · skip
      rw [h91, h92, h93] at G
      rw [h91, h92] at B
      refine lv_istore (lv' := [(8, .int r), (7, .int (nI (lowN (x >>> ((8 : Int32) &&& 31)) % 12))), (6, .int (nI (lowN (x >>> ((4 : Int32) &&& 31)) % 8))), (5, .int (nI (lowN x % 9))), (0, .ref (ad 0)), (1, .int (nI kd)), (2, .int x), (3, .ref (ad 16)), (4, .ref (ad 17))]) hx hb dL_act_63 hl (by decide) rfl (fun ls hl => ?_)
      refine lv_iload hx hb dL_act_65 (lv_at hl 0 rfl) ?_
      refine lv_if_lt (tgt := 76) hx hb dL_act_67 (by decide) (fun c_67 => ?_) (fun c_67 => ?_)
      · skip
        refine lv_iload hx hb dL_act_76 (lv_at hl 0 rfl) ?_
        exact x_aendi hA B G (⟨r, rfl, Or.inl ⟨hr, rfl, rfl, rfl⟩⟩) (Nat.le_of_ble_eq_true rfl) (Nat.le_of_ble_eq_true rfl) dL_act_78
      · exact False.elim (c_67 (lt_m1 hr))
    · subst hr
      have hl := lv_sub (l' := [(3, .ref (ad 16)), (7, .int (nI (lowN (x >>> ((8 : Int32) &&& 31)) % 12)))]) hl [6, 0] rfl
      have hl : lv_has ls 9 [(3, .ref (ad9 16)), (7, .int (nI (lowN (x >>> ((8 : Int32) &&& 31)) % 12)))] := lv_cast hl (by rw [(k16 16 (by decide) (by decide)).2])
      refine act_tail B G hT0 ((k16 16 (by decide) (by decide)).1.trans s16) hn40 hl (fun H locs ls G => ?_)
      refine x_aendi hA B G (⟨_, rfl, Or.inr ⟨nb + 1, nc, od', _, act_sent hL DW9 hI9 k16 lo, ⟨e09, k16, ?_⟩, Or.inl ⟨by omega, rfl, rfl, ?_, ?_, ?_, ?_⟩⟩⟩) (Nat.le_of_ble_eq_true rfl) (Nat.le_of_ble_eq_true rfl) dL_act_78
      · rw [xu_ne _ _ _ (by decide)]; exact lo 18 (by decide) (by decide) (by decide) (by decide)
      · rw [xu_ne _ _ _ (by omega)]; exact f7
      · rw [cBits_xu _ _ _ _ (by omega)]; exact fb
      · rw [xu_ne _ _ _ (by omega)]; exact f8
      · rw [xu_ne _ _ _ (by omega)]; exact f9
