/-! AGAIN: who meets again at once -/
theorem UN.swap {a b k : Nat} {V : xV} (h : UN a b V k) : UN b a V k := ⟨h.2, h.1⟩
theorem LwS.mono {cI cZ cO : ClassId} {tys : List (ClassId × FieldType)} {e0 t t' nb nc : Nat} {od S : Nat → Nat} {sh : xS} {ad : Nat → Nat} {V : xV} (h : LwS cI cZ cO tys e0 t nb nc od S sh ad V) (ht : t ≤ t') : LwS cI cZ cO tys e0 t' nb nc od S sh ad V := ⟨h.1, h.2.1.mono ht, h.2.2⟩
theorem LwS.lo {cI cZ cO : ClassId} {tys : List (ClassId × FieldType)} {e0 t t' nb nc : Nat} {od S : Nat → Nat} {sh : xS} {ad : Nat → Nat} {V V' : xV} (h : LwS cI cZ cO tys e0 t nb nc od S sh ad V) (hI : INV t' nb nc od S V') (lo : ∀ i, i < 20 → i ≠ 2 → i ≠ 3 → i ≠ 13 → i ≠ 14 → V' i = V i) : LwS cI cZ cO tys e0 t' nb nc od S sh ad V' :=
  h.same hI (lo 16 (by decide) (by decide) (by decide) (by decide) (by decide)) (lo 17 (by decide) (by decide) (by decide) (by decide) (by decide)) (lo 1 (by decide) (by decide) (by decide) (by decide) (by decide))
set_option maxHeartbeats 4000000 in
set_option maxRecDepth 100000 in
theorem c_L_again (l : Launch) {D : va_G} {sh : xS} {ad : Nat → Nat} {cI cZ cO : ClassId} {tys : List (ClassId × FieldType)} {t nb nc : Nat} {od S : Nat → Nat} {mi e0 : Nat} {sa : Nat → Nat} (V : xV) (hL : LwS cI cZ cO tys e0 t nb nc od S sh ad V) (ht : t + 3 ≤ 100000) (x : Int32) : xMl l yL_again wsL_again (rmLw 24 540) D sh ad tys mi e0 sa V [.ref (ad 0), .int x] (fun v sh' ad' V' => v = some (.int 1) ∧ sh' = sh ∧ ad' = ad ∧ LwS cI cZ cO tys e0 (t + 3) nb nc od S sh ad V') := by
  obtain ⟨DW, hI, s16, s17, h16, h17⟩ := id hL
  have DL := DW.dl
  refine xOfl (cc := cL_again) (nL := 8) (ret := some .boolean) (own := RL) (by decide) rfl rfl (Nat.le_of_ble_eq_true rfl) DL.2.2.2.2.2.2.1.2.2 ?_
  intro p e s m args below meth c A ls hA B E F hN G hl
  have hx := B.1.1
  have hb := B.1.2.1
  have Dl := DL.1
  have hT0 := DL.2.2.2.2.2.2.1.1
  have h40 := DL.2.2.2.2.2.2.2.2
  have hU : lowN x % 8 < 8 := Nat.mod_lt _ (by decide)
  have hL7 : lowN (x >>> ((3 : Int32) &&& 31)) % 7 < 7 := Nat.mod_lt _ (by decide)
  have hV : (lowN x % 8 + 1 + lowN (x >>> ((3 : Int32) &&& 31)) % 7) % 8 < 8 := Nat.mod_lt _ (by decide)
  have hUV : lowN x % 8 ≠ (lowN x % 8 + 1 + lowN (x >>> ((3 : Int32) &&& 31)) % 7) % 8 := by omega
  have hl : lv_has ls 8 [(0, .ref (ad 0)), (1, .int x)] := hl
  refine lv_iload_n hx hb dL_again_0 rfl (lv_at hl 1 rfl) ?_
  refine lv_bipush (v := 8) hx hb dL_again_1 (by decide) ?_
  refine x_callSi (rest := []) B G (c_L_low l B.2.2.2.2.1 V x 8 (by decide) (by decide)) (va_cwS 2 B.1.2.2.2.2 gL_again_L_low rfl rfl rfl (by decide +kernel) ⟨Nat.le_of_ble_eq_true rfl, Nat.le_of_ble_eq_true rfl⟩) rfl hl.1 rfl (Nat.le_of_ble_eq_true rfl) ⟨Nat.le_of_ble_eq_true rfl, Nat.le_of_ble_eq_true rfl⟩ dL_again_3 (fun H locs G => ?_)
  refine lv_istore_n (lv' := [(2, .int (nI (lowN x % 8))), (0, .ref (ad 0)), (1, .int x)]) hx hb dL_again_6 rfl hl (by decide) rfl (fun ls hl => ?_)
  refine lv_iload_n hx hb dL_again_7 rfl (lv_at hl 0 rfl) ?_
  refine lv_iconst (v := 1) hx hb dL_again_8 (by decide) ?_
  refine lv_iadd hx hb dL_again_9 ?_
  refine x_top (show (nI (lowN x % 8)) + 1 = nI ((lowN x % 8) + 1) from nI_add (lowN x % 8) 1) ?_
  refine lv_iload_n hx hb dL_again_10 rfl (lv_at hl 2 rfl) ?_
  refine lv_iconst (v := 3) hx hb dL_again_11 (by decide) ?_
  refine lv_ishr hx hb dL_again_12 ?_
  refine lv_bipush (v := 7) hx hb dL_again_13 (by decide) ?_
  refine x_callSi (rest := [.int (nI ((lowN x % 8) + 1))]) B G (c_L_low l B.2.2.2.2.1 V (x >>> ((3 : Int32) &&& 31)) 7 (by decide) (by decide)) (va_cwS 2 B.1.2.2.2.2 gL_again_L_low rfl rfl rfl (by decide +kernel) ⟨Nat.le_of_ble_eq_true rfl, Nat.le_of_ble_eq_true rfl⟩) rfl hl.1 rfl (Nat.le_of_ble_eq_true rfl) ⟨Nat.le_of_ble_eq_true rfl, Nat.le_of_ble_eq_true rfl⟩ dL_again_15 (fun H locs G => ?_)
  refine lv_iadd hx hb dL_again_18 ?_
  refine x_top (show (nI ((lowN x % 8) + 1)) + (nI (lowN (x >>> ((3 : Int32) &&& 31)) % 7)) = nI (((lowN x % 8) + 1) + (lowN (x >>> ((3 : Int32) &&& 31)) % 7)) from nI_add ((lowN x % 8) + 1) (lowN (x >>> ((3 : Int32) &&& 31)) % 7)) ?_
  refine lv_bipush (v := 8) hx hb dL_again_19 (by decide) ?_
  refine lv_irem hx hb dL_again_21 (by decide) ?_
  refine x_top (show _ = nI ((lowN x % 8 + 1 + lowN (x >>> ((3 : Int32) &&& 31)) % 7) % 8) from pk_rem (a := lowN x % 8 + 1 + lowN (x >>> ((3 : Int32) &&& 31)) % 7) (d := 8) (by omega) (by decide) (by decide)) ?_
  refine lv_istore_n (lv' := [(3, .int (nI ((lowN x % 8 + 1 + lowN (x >>> ((3 : Int32) &&& 31)) % 7) % 8))), (2, .int (nI (lowN x % 8))), (0, .ref (ad 0)), (1, .int x)]) hx hb dL_again_22 rfl hl (by decide) rfl (fun ls hl => ?_)
  refine lv_aload_n hx hb dL_again_23 rfl (lv_at hl 2 rfl) ?_
  refine lv_iload_n hx hb dL_again_24 rfl (lv_at hl 1 rfl) ?_
  refine lv_iload_n hx hb dL_again_25 rfl (lv_at hl 0 rfl) ?_
  refine lv_bipush (v := 20) hx hb dL_again_26 (by decide) ?_
  refine x_callSw (rest := []) B E F hN G (W_meet_ok DW hI (by omega) (a := lowN x % 8) (b := (lowN x % 8 + 1 + lowN (x >>> ((3 : Int32) &&& 31)) % 7) % 8) (mo := 20) hU hV hUV (by omega)) (vx_cwSW 4 B.1.2.2.2.2 gL_again_L_meet rfl rfl rfl (by decide +kernel) ⟨Nat.le_of_ble_eq_true rfl, Nat.le_of_ble_eq_true rfl⟩) rfl hl.1 rfl (Nat.le_of_ble_eq_true rfl) ⟨Nat.le_of_ble_eq_true rfl, Nat.le_of_ble_eq_true rfl⟩ dL_again_28 (fun v sh9 ad9 V1 H locs hR B G => ?_)
  obtain ⟨h91, h92, m1, n1, hv9, hm1, hI1, lo1, hKN1, hUN1, e81⟩ := hR
  rw [h91, h92] at G
  rw [h91, h92] at B
  subst hv9
  have hL1 := hL.lo hI1 lo1
  refine W.eq (g2 := F0 m 31 ls [.int (nI (m1 + n1))]) rfl ?_
  refine lv_istore (lv' := [(4, .int (nI (m1 + n1))), (3, .int (nI ((lowN x % 8 + 1 + lowN (x >>> ((3 : Int32) &&& 31)) % 7) % 8))), (2, .int (nI (lowN x % 8))), (0, .ref (ad 0)), (1, .int x)]) hx hb dL_again_31 hl (by decide) rfl (fun ls hl => ?_)
  refine lv_iload hx hb dL_again_33 (lv_at hl 0 rfl) ?_
  refine lv_if_lt (tgt := 45) hx hb dL_again_35 (by decide) (fun c_35 => ?_) (fun c_35 => ?_)
  · exact False.elim (nI_pos (show m1 + n1 < 2 ^ 31 by omega) c_35)
  · skip
    refine lv_iload hx hb dL_again_38 (lv_at hl 0 rfl) ?_
    refine lv_bipush (v := 19) hx hb dL_again_40 (by decide) ?_
    refine lv_icmp_le (tgt := 58) hx hb dL_again_42 (by decide) (fun c_42 => ?_) (fun c_42 => ?_)
    · skip
      have c_42 : (m1 + n1) ≤ 19 := (nI_leI (a := (m1 + n1)) (b := 19) (by omega) (by omega)).mp c_42
      refine lv_aload_n hx hb dL_again_58 rfl (lv_at hl 3 rfl) ?_
      refine x_callSi (rest := []) B G (c_L_deliveries l DL V1 hI1) (va_cwS 1 B.1.2.2.2.2 gL_again_L_deliveries rfl rfl rfl (by decide +kernel) ⟨Nat.le_of_ble_eq_true rfl, Nat.le_of_ble_eq_true rfl⟩) rfl hl.1 rfl (Nat.le_of_ble_eq_true rfl) ⟨Nat.le_of_ble_eq_true rfl, Nat.le_of_ble_eq_true rfl⟩ dL_again_59 (fun H locs G => ?_)
      refine lv_istore (lv' := [(5, .int (nI (cntP (dlv V1) nb))), (4, .int (nI (m1 + n1))), (3, .int (nI ((lowN x % 8 + 1 + lowN (x >>> ((3 : Int32) &&& 31)) % 7) % 8))), (2, .int (nI (lowN x % 8))), (0, .ref (ad 0)), (1, .int x)]) hx hb dL_again_62 hl (by decide) rfl (fun ls hl => ?_)
      refine lv_iconst (v := 0) hx hb dL_again_64 (by decide) ?_
      refine lv_istore (lv' := [(6, .int 0), (5, .int (nI (cntP (dlv V1) nb))), (4, .int (nI (m1 + n1))), (3, .int (nI ((lowN x % 8 + 1 + lowN (x >>> ((3 : Int32) &&& 31)) % 7) % 8))), (2, .int (nI (lowN x % 8))), (0, .ref (ad 0)), (1, .int x)]) hx hb dL_again_65 hl (by decide) rfl (fun ls hl => ?_)
      have loop_67 : ∀ (f k : Nat), k ≤ nb → nb < k + f → ∀ (H : Heap) (locs : List Loc) (ls : Array Slot), xG D sh ad A s.heap V1 H locs → lv_has ls 8 [(0, .ref (ad 0)), (1, .int x), (2, .int (nI (lowN x % 8))), (3, .int (nI ((lowN x % 8 + 1 + lowN (x >>> ((3 : Int32) &&& 31)) % 7) % 8))), (4, .int (nI (m1 + n1))), (5, .int (nI (cntP (dlv V1) nb))), (6, .int (nI k))] → W p l e (rmLw 24 540) s m args below meth c H locs (8 * 1) (180 * 1) (xQa below D sh ad tys s.heap.size A args s (rmLw 24 540).cells (rmLw 24 540).slots (fun v sh' ad' V' => v = some (.int 1) ∧ sh' = sh ∧ ad' = ad ∧ LwS cI cZ cO tys e0 (t + 3) nb nc od S sh ad V')) (F0 m 67 ls []) := by
        intro f
        induction f with
        | zero => intro k h1 h2; exact absurd h2 (by omega)
        | succ f ih_67 =>
          intro k hi_k hf_k H locs ls G hl
          refine lv_iload hx hb dL_again_67 (lv_at hl 6 rfl) ?_
          refine lv_aload_n hx hb dL_again_69 rfl (lv_at hl 0 rfl) ?_
          refine x_callVi (rest := [.int (nI k)]) B G (t_bundles l DL hI1 (TS.refl V1)) (cwV 0 B.1.2.2.2.2 gL_again_X2_bundles rfl rfl rfl (by decide +kernel) ⟨Nat.le_of_ble_eq_true rfl, Nat.le_of_ble_eq_true rfl⟩) (d_recv B G Dl) rfl hl.1 rfl (Nat.le_of_ble_eq_true rfl) ⟨Nat.le_of_ble_eq_true rfl, Nat.le_of_ble_eq_true rfl⟩ dL_again_70 (fun H locs G => ?_)
          refine lv_icmp_ge (tgt := 126) hx hb dL_again_73 (by decide) (fun c_73 => ?_) (fun c_73 => ?_)
          · skip
            have c_73 : nb ≤ k := (nI_leI (a := nb) (b := k) (by omega) (by omega)).mp c_73
            refine lv_aload_n hx hb dL_again_126 rfl (lv_at hl 0 rfl) ?_
            refine lv_iload_n hx hb dL_again_127 rfl (lv_at hl 3 rfl) ?_
            refine lv_iload_n hx hb dL_again_128 rfl (lv_at hl 2 rfl) ?_
            refine lv_bipush (v := 20) hx hb dL_again_129 (by decide) ?_
            refine x_callSw (rest := []) B E F hN G (W_meet_ok DW hI1 (by omega) (a := (lowN x % 8 + 1 + lowN (x >>> ((3 : Int32) &&& 31)) % 7) % 8) (b := lowN x % 8) (mo := 20) hV hU (Ne.symm hUV) (by omega)) (vx_cwSW 4 B.1.2.2.2.2 gL_again_L_meet rfl rfl rfl (by decide +kernel) ⟨Nat.le_of_ble_eq_true rfl, Nat.le_of_ble_eq_true rfl⟩) rfl hl.1 rfl (Nat.le_of_ble_eq_true rfl) ⟨Nat.le_of_ble_eq_true rfl, Nat.le_of_ble_eq_true rfl⟩ dL_again_131 (fun v sh9 ad9 V2 H locs hR B G => ?_)
            obtain ⟨h91, h92, m2, n2, hv9, hm2, hI2, lo2, hKN2, hUN2, e82⟩ := hR
            rw [h91, h92] at G
            rw [h91, h92] at B
            subst hv9
            have hL2 := hL1.lo hI2 lo2
            refine W.eq (g2 := F0 m 134 ls [.int (nI (m2 + n2))]) rfl ?_
            have eD : cntP (dlv V2) nb = cntP (dlv V1) nb := cntP_congr (fun k hk => by unfold dlv; rw [e82 (fun k hk => (hUN1 (by omega) k hk).swap) k])
            have cle := cntP_le (dlv V1) nb
            refine lv_istore (lv' := [(6, .int (nI (m2 + n2))), (0, .ref (ad 0)), (1, .int x), (2, .int (nI (lowN x % 8))), (3, .int (nI ((lowN x % 8 + 1 + lowN (x >>> ((3 : Int32) &&& 31)) % 7) % 8))), (4, .int (nI (m1 + n1))), (5, .int (nI (cntP (dlv V1) nb)))]) hx hb dL_again_134 hl (by decide) rfl (fun ls hl => ?_)
            refine lv_iload hx hb dL_again_136 (lv_at hl 0 rfl) ?_
            refine lv_if_lt (tgt := 171) hx hb dL_again_138 (by decide) (fun c_138 => ?_) (fun c_138 => ?_)
            · exact False.elim (nI_pos (show m2 + n2 < 2 ^ 31 by omega) c_138)
            · skip
              refine lv_iload hx hb dL_again_141 (lv_at hl 0 rfl) ?_
              refine lv_bipush (v := 20) hx hb dL_again_143 (by decide) ?_
              refine lv_icmp_gt (tgt := 171) hx hb dL_again_145 (by decide) (fun c_145 => ?_) (fun c_145 => ?_)
              · exact False.elim (absurd ((nI_leI (a := m2 + n2) (b := 20) (by omega) (by omega)).mpr hm2) (i_nle.mpr c_145))
              · skip
                have c_145 : ¬ (20 < (m2 + n2)) := fun h9 => c_145 ((nI_ltI (a := 20) (b := (m2 + n2)) (by omega) (by omega)).mpr h9)
                refine lv_aload_n hx hb dL_again_148 rfl (lv_at hl 1 rfl) ?_
                refine x_callSi (rest := []) B G (c_L_deliveries l DL V2 hI2) (va_cwS 1 B.1.2.2.2.2 gL_again_L_deliveries rfl rfl rfl (by decide +kernel) ⟨Nat.le_of_ble_eq_true rfl, Nat.le_of_ble_eq_true rfl⟩) rfl hl.1 rfl (Nat.le_of_ble_eq_true rfl) ⟨Nat.le_of_ble_eq_true rfl, Nat.le_of_ble_eq_true rfl⟩ dL_again_149 (fun H locs G => ?_)
                refine lv_iload hx hb dL_again_152 (lv_at hl 6 rfl) ?_
                refine lv_icmp_ne (tgt := 171) hx hb dL_again_154 (by decide) (fun c_154 => ?_) (fun c_154 => ?_)
                · exact False.elim (c_154 (congrArg nI eD))
                · skip
                  have c_154 : (cntP (dlv V2) nb) = (cntP (dlv V1) nb) := (nI_eq (a := (cntP (dlv V2) nb)) (b := (cntP (dlv V1) nb)) (by omega) (by omega)).mp c_154
                  refine lv_aload_n hx hb dL_again_157 rfl (lv_at hl 1 rfl) ?_
                  refine lv_iload_n hx hb dL_again_158 rfl (lv_at hl 3 rfl) ?_
                  refine lv_iload_n hx hb dL_again_159 rfl (lv_at hl 4 rfl) ?_
                  refine lv_iconst (v := 0) hx hb dL_again_160 (by decide) ?_
                  refine x_callSw (rest := []) B E F hN G (W_meet_ok DW hI2 (by omega) (a := lowN x % 8) (b := (lowN x % 8 + 1 + lowN (x >>> ((3 : Int32) &&& 31)) % 7) % 8) (mo := 0) hU hV hUV (by omega)) (vx_cwSW 4 B.1.2.2.2.2 gL_again_L_meet rfl rfl rfl (by decide +kernel) ⟨Nat.le_of_ble_eq_true rfl, Nat.le_of_ble_eq_true rfl⟩) rfl hl.1 rfl (Nat.le_of_ble_eq_true rfl) ⟨Nat.le_of_ble_eq_true rfl, Nat.le_of_ble_eq_true rfl⟩ dL_again_161 (fun v sh9 ad9 V3 H locs hR B G => ?_)
                  obtain ⟨h91, h92, m3, n3, hv9, hm3, hI3, lo3, hKN3, hUN3, e83⟩ := hR
                  rw [h91, h92] at G
                  rw [h91, h92] at B
                  subst hv9
                  have hL3 := hL2.lo hI3 lo3
                  refine W.eq (g2 := F0 m 164 ls [.int (nI (m3 + n3))]) rfl ?_
                  refine lv_if_ne (tgt := 171) hx hb dL_again_164 (by decide) (fun c_164 => ?_) (fun c_164 => ?_)
                  · exact False.elim (c_164 (by rw [show m3 + n3 = 0 by omega]; rfl))
                  · skip
                    refine lv_iconst (v := 1) hx hb dL_again_167 (by decide) ?_
                    refine lv_goto (tgt := 172) hx hb dL_again_168 (by decide) ?_
                    exact x_aendz (Or.inr rfl) hA B G (⟨rfl, rfl, rfl, hL3.mono (by omega)⟩) (Nat.le_of_ble_eq_true rfl) (Nat.le_of_ble_eq_true rfl) dL_again_172
          · skip
            have c_73 : ¬ (nb ≤ k) := fun h9 => c_73 ((nI_leI (a := nb) (b := k) (by omega) (by omega)).mpr h9)
            refine lv_aload_n hx hb dL_again_76 rfl (lv_at hl 0 rfl) ?_
            refine lv_iload hx hb dL_again_77 (lv_at hl 6 rfl) ?_
            refine x_callVi (rest := []) B G ((t_fld (D := D) l DL hI1 (TS.refl V1) (k := k) (by omega)).2.1) (cwV 1 B.1.2.2.2.2 gL_again_X2_deliveredAt rfl rfl rfl (by decide +kernel) ⟨Nat.le_of_ble_eq_true rfl, Nat.le_of_ble_eq_true rfl⟩) (d_recv B G Dl) rfl hl.1 rfl (Nat.le_of_ble_eq_true rfl) ⟨Nat.le_of_ble_eq_true rfl, Nat.le_of_ble_eq_true rfl⟩ dL_again_79 (fun H locs G => ?_)
            refine lv_aload_n hx hb dL_again_82 rfl (lv_at hl 0 rfl) ?_
            refine x_callVi (rest := [.int (V1 (20 + 4 * k) 8)]) B G (t_clock l DL hI1 (TS.refl V1)) (cwV 0 B.1.2.2.2.2 gL_again_X2_clock rfl rfl rfl (by decide +kernel) ⟨Nat.le_of_ble_eq_true rfl, Nat.le_of_ble_eq_true rfl⟩) (d_recv B G Dl) rfl hl.1 rfl (Nat.le_of_ble_eq_true rfl) ⟨Nat.le_of_ble_eq_true rfl, Nat.le_of_ble_eq_true rfl⟩ dL_again_83 (fun H locs G => ?_)
            refine lv_icmp_ne (tgt := 93) hx hb dL_again_86 (by decide) (fun c_86 => ?_) (fun c_86 => ?_)
            · skip
              refine lv_iconst (v := 0) hx hb dL_again_93 (by decide) ?_
              refine lv_istore (lv' := [(7, .int 0), (0, .ref (ad 0)), (1, .int x), (2, .int (nI (lowN x % 8))), (3, .int (nI ((lowN x % 8 + 1 + lowN (x >>> ((3 : Int32) &&& 31)) % 7) % 8))), (4, .int (nI (m1 + n1))), (5, .int (nI (cntP (dlv V1) nb))), (6, .int (nI k))]) hx hb dL_again_94 hl (by decide) rfl (fun ls hl => ?_)
              refine lv_iload hx hb dL_again_96 (lv_at hl 0 rfl) ?_
              refine lv_if_ne (tgt := 120) hx hb dL_again_98 (by decide) (fun c_98 => ?_) (fun c_98 => ?_)
              · exact False.elim (c_98 (by decide))
              · skip
                refine lv_aload_n hx hb dL_again_101 rfl (lv_at hl 1 rfl) ?_
                refine lv_iload_n hx hb dL_again_102 rfl (lv_at hl 3 rfl) ?_
                refine lv_iload hx hb dL_again_103 (lv_at hl 7 rfl) ?_
                refine x_callVi (rest := []) B G (t_knows l DL hI1 (TS.refl V1) (n := lowN x % 8) (k := k) hU (by omega)) (cwV 2 B.1.2.2.2.2 gL_again_X2_knows rfl rfl rfl (by decide +kernel) ⟨Nat.le_of_ble_eq_true rfl, Nat.le_of_ble_eq_true rfl⟩) (d_recv B G Dl) rfl hl.1 rfl (Nat.le_of_ble_eq_true rfl) ⟨Nat.le_of_ble_eq_true rfl, Nat.le_of_ble_eq_true rfl⟩ dL_again_105 (fun H locs G => ?_)
                refine lv_aload_n hx hb dL_again_108 rfl (lv_at hl 1 rfl) ?_
                refine lv_iload_n hx hb dL_again_109 rfl (lv_at hl 4 rfl) ?_
                refine lv_iload hx hb dL_again_110 (lv_at hl 7 rfl) ?_
                refine x_callVi (rest := [.int (V1 (20 + 4 * k + 3) (lowN x % 8))]) B G (t_knows l DL hI1 (TS.refl V1) (n := (lowN x % 8 + 1 + lowN (x >>> ((3 : Int32) &&& 31)) % 7) % 8) (k := k) hV (by omega)) (cwV 2 B.1.2.2.2.2 gL_again_X2_knows rfl rfl rfl (by decide +kernel) ⟨Nat.le_of_ble_eq_true rfl, Nat.le_of_ble_eq_true rfl⟩) (d_recv B G Dl) rfl hl.1 rfl (Nat.le_of_ble_eq_true rfl) ⟨Nat.le_of_ble_eq_true rfl, Nat.le_of_ble_eq_true rfl⟩ dL_again_112 (fun H locs G => ?_)
                refine lv_icmp_eq (tgt := 120) hx hb dL_again_115 (by decide) (fun c_115 => ?_) (fun c_115 => ?_)
                · skip
                  refine lv_iinc (v := nI (k + 1)) (lv' := [(6, .int (nI (k + 1))), (7, .int 0), (0, .ref (ad 0)), (1, .int x), (2, .int (nI (lowN x % 8))), (3, .int (nI ((lowN x % 8 + 1 + lowN (x >>> ((3 : Int32) &&& 31)) % 7) % 8))), (4, .int (nI (m1 + n1))), (5, .int (nI (cntP (dlv V1) nb)))]) hx hb dL_again_120 hl (k := 7) rfl (nI_add k 1) (by decide) rfl (fun ls hl => ?_)
                  refine lv_goto (tgt := 67) hx hb dL_again_123 (by decide) ?_
                  have hl := lv_sub (l' := [(0, .ref (ad 0)), (1, .int x), (2, .int (nI (lowN x % 8))), (3, .int (nI ((lowN x % 8 + 1 + lowN (x >>> ((3 : Int32) &&& 31)) % 7) % 8))), (4, .int (nI (m1 + n1))), (5, .int (nI (cntP (dlv V1) nb))), (6, .int (nI (k + 1)))]) hl [2, 3, 4, 5, 6, 7, 0] rfl
                  exact ih_67 (k + 1) (by omega) (by omega) _ _ _ G hl
                · exact False.elim (c_115 (hKN1 k (by omega)))
            · skip
              refine lv_iconst (v := 1) hx hb dL_again_89 (by decide) ?_
              refine lv_goto (tgt := 94) hx hb dL_again_90 (by decide) ?_
              refine lv_istore (lv' := [(7, .int 1), (0, .ref (ad 0)), (1, .int x), (2, .int (nI (lowN x % 8))), (3, .int (nI ((lowN x % 8 + 1 + lowN (x >>> ((3 : Int32) &&& 31)) % 7) % 8))), (4, .int (nI (m1 + n1))), (5, .int (nI (cntP (dlv V1) nb))), (6, .int (nI k))]) hx hb dL_again_94 hl (by decide) rfl (fun ls hl => ?_)
              refine lv_iload hx hb dL_again_96 (lv_at hl 0 rfl) ?_
              refine lv_if_ne (tgt := 120) hx hb dL_again_98 (by decide) (fun c_98 => ?_) (fun c_98 => ?_)
              · skip
                refine lv_iinc (v := nI (k + 1)) (lv' := [(6, .int (nI (k + 1))), (7, .int 1), (0, .ref (ad 0)), (1, .int x), (2, .int (nI (lowN x % 8))), (3, .int (nI ((lowN x % 8 + 1 + lowN (x >>> ((3 : Int32) &&& 31)) % 7) % 8))), (4, .int (nI (m1 + n1))), (5, .int (nI (cntP (dlv V1) nb)))]) hx hb dL_again_120 hl (k := 7) rfl (nI_add k 1) (by decide) rfl (fun ls hl => ?_)
                refine lv_goto (tgt := 67) hx hb dL_again_123 (by decide) ?_
                have hl := lv_sub (l' := [(0, .ref (ad 0)), (1, .int x), (2, .int (nI (lowN x % 8))), (3, .int (nI ((lowN x % 8 + 1 + lowN (x >>> ((3 : Int32) &&& 31)) % 7) % 8))), (4, .int (nI (m1 + n1))), (5, .int (nI (cntP (dlv V1) nb))), (6, .int (nI (k + 1)))]) hl [2, 3, 4, 5, 6, 7, 0] rfl
                exact ih_67 (k + 1) (by omega) (by omega) _ _ _ G hl
              · exact False.elim (absurd c_98 (by decide))
      have hl := lv_sub (l' := [(0, .ref (ad 0)), (1, .int x), (2, .int (nI (lowN x % 8))), (3, .int (nI ((lowN x % 8 + 1 + lowN (x >>> ((3 : Int32) &&& 31)) % 7) % 8))), (4, .int (nI (m1 + n1))), (5, .int (nI (cntP (dlv V1) nb))), (6, .int 0)]) hl [5, 6, 4, 3, 2, 1, 0] rfl
      have hl := lv_cast hl (congrArg (fun z : Int32 => ([(0, .ref (ad 0)), (1, .int x), (2, .int (nI (lowN x % 8))), (3, .int (nI ((lowN x % 8 + 1 + lowN (x >>> ((3 : Int32) &&& 31)) % 7) % 8))), (4, .int (nI (m1 + n1))), (5, .int (nI (cntP (dlv V1) nb))), (6, .int z)] : List (Nat × Value))) (show 0 = (nI 0) from rfl))
      exact loop_67 (nb + 1) 0 (by omega) (by omega) _ _ _ G hl
    · skip
      have c_42 : ¬ ((m1 + n1) ≤ 19) := fun h9 => c_42 ((nI_leI (a := (m1 + n1)) (b := 19) (by omega) (by omega)).mpr h9)
      refine lv_iload hx hb dL_again_45 (lv_at hl 0 rfl) ?_
      refine lv_bipush (v := 20) hx hb dL_again_47 (by decide) ?_
      refine lv_icmp_ne (tgt := 56) hx hb dL_again_49 (by decide) (fun c_49 => ?_) (fun c_49 => ?_)
      · exact False.elim (c_49 (by rw [show m1 + n1 = 20 by omega]; rfl))
      · skip
        have c_49 : (m1 + n1) = 20 := (nI_eq (a := (m1 + n1)) (b := 20) (by omega) (by omega)).mp c_49
        refine lv_iconst (v := 1) hx hb dL_again_52 (by decide) ?_
        refine lv_goto (tgt := 57) hx hb dL_again_53 (by decide) ?_
        exact x_aendz (Or.inr rfl) hA B G (⟨rfl, rfl, rfl, hL1.mono (by omega)⟩) (Nat.le_of_ble_eq_true rfl) (Nat.le_of_ble_eq_true rfl) dL_again_57
