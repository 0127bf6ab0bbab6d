/-! LEFT: what an act leaves -/
set_option maxHeartbeats 4000000 in
set_option maxRecDepth 100000 in
theorem c_L_left (l : Launch) (hst : l.stackTraces = false) {D : va_G} {sh : xS} {ad : Nat → Nat} {cI cZ cO : ClassId} {tys : List (ClassId × FieldType)} {t nb nc : Nat} {od S : Nat → Nat} {mi e0 : Nat} {sa : Nat → Nat} (DW : xDw sh ad cI cZ cO tys e0 nb od) (V : xV) (hI : INV t nb nc od S V) (s18 : sh 18 = some (fun f => .inl (cI, 64, .inl f))) {V0 : xV} {nb0 : Nat} (hb0 : nb0 ≤ 40) (w0 : V 18 0 = V0 0 0) (w1 : V 18 1 = nI nb0) (kd : Nat) (hkd : kd < 13) (x r : Int32) (hF : LF kd x nb0 nb V0 V r) : xMl l yL_left wsL_left (rmLw 8 180) D sh ad tys mi e0 sa V [.ref (ad 0), .int (nI kd), .int x, .int r, .ref (ad 18)] (fun v sh' ad' V' => v = some (.int 1) ∧ sh' = sh ∧ ad' = ad ∧ V' = V) := by
  have DL := DW.dl
  have f1 : kd < 4 → r = nI nb0 ∧ nb = nb0 + 1 ∧ V (20 + 4 * nb0) 7 = nI (lowN x % 9) ∧ cBits V (20 + 4 * nb0) 8 = 1 <<< (nI (lowN x % 9) &&& 31) ∧ V (20 + 4 * nb0) 8 = -1 ∧ V (20 + 4 * nb0) 9 = 0 := fun z => by
    rcases hF with q | q | q | q | q
    · exact q.2
    · omega
    · omega
    · omega
    · omega
  have f2 : 4 ≤ kd → kd < 9 → nb = nb0 ∧ V 0 0 = V0 0 0 ∧ ∃ m, m ≤ 20 ∧ r = nI m := fun z1 z2 => by
    rcases hF with q | q | q | q | q
    · omega
    · exact q.2
    · omega
    · omega
    · omega
  have f3 : kd = 9 → V 0 0 = V0 0 0 + nI (lowN x % 30) ∧ ∃ m, m ≤ nb0 ∧ r = nI m := fun z => by
    rcases hF with q | q | q | q | q
    · omega
    · omega
    · exact q.2.2
    · omega
    · omega
  have f4 : kd = 10 → ∃ m, 1 ≤ m ∧ m ≤ 8 ∧ r = nI m := fun z => by
    rcases hF with q | q | q | q | q
    · omega
    · omega
    · omega
    · exact q.2
    · omega
  have f5 : 10 < kd → ∃ m, 1 ≤ m ∧ m ≤ 30 ∧ r = nI m := fun z => by
    rcases hF with q | q | q | q | q
    · omega
    · omega
    · omega
    · omega
    · exact q.2
  refine xOfl (cc := cL_left) (nL := 6) (ret := some .boolean) (own := RL) (by decide) rfl rfl (Nat.le_of_ble_eq_true rfl) DL.2.2.2.2.2.2.1.2.2 ?_
  intro p e s m args below meth c A ls hA B E F hN G hl
  have hx := B.1.1
  have hb := B.1.2.1
  have Dl := DL.1
  have hT0 := DL.2.2.2.2.2.2.1.1
  have h40 := DL.2.2.2.2.2.2.2.2
  have hl : lv_has ls 6 [(0, .ref (ad 0)), (1, .int (nI kd)), (2, .int x), (3, .int r), (4, .ref (ad 18))] := hl
  refine lv_iload_n hx hb dL_left_0 rfl (lv_at hl 1 rfl) ?_
  refine lv_iconst (v := 4) hx hb dL_left_1 (by decide) ?_
  refine lv_icmp_ge (tgt := 97) hx hb dL_left_2 (by decide) (fun c_2 => ?_) (fun c_2 => ?_)
  · skip
    have c_2 : 4 ≤ kd := (nI_leI (a := 4) (b := kd) (by omega) (by omega)).mp c_2
    refine lv_iload_n hx hb dL_left_97 rfl (lv_at hl 1 rfl) ?_
    refine lv_bipush (v := 9) hx hb dL_left_98 (by decide) ?_
    refine lv_icmp_ge (tgt := 137) hx hb dL_left_100 (by decide) (fun c_100 => ?_) (fun c_100 => ?_)
    · skip
      have c_100 : 9 ≤ kd := (nI_leI (a := 9) (b := kd) (by omega) (by omega)).mp c_100
      refine lv_iload_n hx hb dL_left_137 rfl (lv_at hl 1 rfl) ?_
      refine lv_bipush (v := 9) hx hb dL_left_138 (by decide) ?_
      refine lv_icmp_ne (tgt := 175) hx hb dL_left_140 (by decide) (fun c_140 => ?_) (fun c_140 => ?_)
      · skip
        have c_140 : ¬ (kd = 9) := fun h9 => c_140 ((nI_eq (a := kd) (b := 9) (by omega) (by omega)).mpr h9)
        refine lv_iload_n hx hb dL_left_175 rfl (lv_at hl 1 rfl) ?_
        refine lv_bipush (v := 10) hx hb dL_left_176 (by decide) ?_
        refine lv_icmp_ne (tgt := 200) hx hb dL_left_178 (by decide) (fun c_178 => ?_) (fun c_178 => ?_)
        · skip
          have c_178 : ¬ (kd = 10) := fun h9 => c_178 ((nI_eq (a := kd) (b := 10) (by omega) (by omega)).mpr h9)
          obtain ⟨m9, m91, m92, e_r⟩ := f5 (by omega)
          refine lv_iload_n hx hb dL_left_200 rfl (lv_at hl 3 rfl) ?_
          refine lv_iconst (v := 1) hx hb dL_left_201 (by decide) ?_
          refine lv_icmp_lt (tgt := 215) hx hb dL_left_202 (by decide) (fun c_202 => ?_) (fun c_202 => ?_)
          · exact False.elim (absurd (show 1 ≤ r by rw [e_r]; exact (nI_leI (a := 1) (by omega) (by omega)).mpr (by omega)) (i_nle.mpr c_202))
          · skip
            refine lv_iload_n hx hb dL_left_205 rfl (lv_at hl 3 rfl) ?_
            refine lv_bipush (v := 30) hx hb dL_left_206 (by decide) ?_
            refine lv_icmp_gt (tgt := 215) hx hb dL_left_208 (by decide) (fun c_208 => ?_) (fun c_208 => ?_)
            · exact False.elim (absurd (show r ≤ 30 by rw [e_r]; exact (nI_leI (b := 30) (by omega) (by omega)).mpr (by omega)) (i_nle.mpr c_208))
            · skip
              refine lv_iconst (v := 1) hx hb dL_left_211 (by decide) ?_
              refine lv_goto (tgt := 216) hx hb dL_left_212 (by decide) ?_
              exact x_aendz (Or.inr rfl) hA B G (⟨rfl, rfl, rfl, rfl⟩) (Nat.le_of_ble_eq_true rfl) (Nat.le_of_ble_eq_true rfl) dL_left_216
        · skip
          have c_178 : kd = 10 := (nI_eq (a := kd) (b := 10) (by omega) (by omega)).mp c_178
          obtain ⟨m9, m91, m92, e_r⟩ := f4 (by omega)
          refine lv_iload_n hx hb dL_left_181 rfl (lv_at hl 3 rfl) ?_
          refine lv_iconst (v := 1) hx hb dL_left_182 (by decide) ?_
          refine lv_icmp_lt (tgt := 196) hx hb dL_left_183 (by decide) (fun c_183 => ?_) (fun c_183 => ?_)
          · exact False.elim (absurd (show 1 ≤ r by rw [e_r]; exact (nI_leI (a := 1) (by omega) (by omega)).mpr (by omega)) (i_nle.mpr c_183))
          · skip
            refine lv_iload_n hx hb dL_left_186 rfl (lv_at hl 3 rfl) ?_
            refine lv_bipush (v := 8) hx hb dL_left_187 (by decide) ?_
            refine lv_icmp_gt (tgt := 196) hx hb dL_left_189 (by decide) (fun c_189 => ?_) (fun c_189 => ?_)
            · exact False.elim (absurd (show r ≤ 8 by rw [e_r]; exact (nI_leI (b := 8) (by omega) (by omega)).mpr (by omega)) (i_nle.mpr c_189))
            · skip
              refine lv_iconst (v := 1) hx hb dL_left_192 (by decide) ?_
              refine lv_goto (tgt := 216) hx hb dL_left_193 (by decide) ?_
              exact x_aendz (Or.inr rfl) hA B G (⟨rfl, rfl, rfl, rfl⟩) (Nat.le_of_ble_eq_true rfl) (Nat.le_of_ble_eq_true rfl) dL_left_216
      · skip
        have c_140 : kd = 9 := (nI_eq (a := kd) (b := 9) (by omega) (by omega)).mp c_140
        obtain ⟨g0, m9, m91, e_r⟩ := f3 (by omega)
        refine lv_aload_n hx hb dL_left_143 rfl (lv_at hl 0 rfl) ?_
        refine x_callVi (rest := []) B G (t_clock l DL hI (TS.refl V)) (cwV 0 B.1.2.2.2.2 gL_left_X2_clock rfl rfl rfl (by decide +kernel) ⟨Nat.le_of_ble_eq_true rfl, Nat.le_of_ble_eq_true rfl⟩) (d_recv B G Dl) rfl hl.1 rfl (Nat.le_of_ble_eq_true rfl) ⟨Nat.le_of_ble_eq_true rfl, Nat.le_of_ble_eq_true rfl⟩ dL_left_144 (fun H locs G => ?_)
        refine lv_aload hx hb dL_left_147 (lv_at hl 4 rfl) ?_
        refine lv_iconst (v := 0) hx hb dL_left_149 (by decide) ?_
        refine x_ald B G 18 s18 0 hT0 0 (show 0 < 64 from by omega) rfl (by decide) dL_left_150 ?_
        refine lv_iload_n hx hb dL_left_151 rfl (lv_at hl 2 rfl) ?_
        refine lv_bipush (v := 30) hx hb dL_left_152 (by decide) ?_
        refine x_callSi (rest := [.int (V 18 0), .int (V 0 0)]) B G (c_L_low l B.2.2.2.2.1 V x 30 (by decide) (by decide)) (va_cwS 2 B.1.2.2.2.2 gL_left_L_low rfl rfl rfl (by decide +kernel) ⟨Nat.le_of_ble_eq_true rfl, Nat.le_of_ble_eq_true rfl⟩) rfl hl.1 rfl (Nat.le_of_ble_eq_true rfl) ⟨Nat.le_of_ble_eq_true rfl, Nat.le_of_ble_eq_true rfl⟩ dL_left_154 (fun H locs G => ?_)
        refine lv_iadd hx hb dL_left_157 ?_
        refine lv_icmp_ne (tgt := 173) hx hb dL_left_158 (by decide) (fun c_158 => ?_) (fun c_158 => ?_)
        · exact False.elim (c_158 (g0.trans (by rw [w0])))
        · skip
          refine lv_iload_n hx hb dL_left_161 rfl (lv_at hl 3 rfl) ?_
          refine lv_aload hx hb dL_left_162 (lv_at hl 4 rfl) ?_
          refine lv_iconst (v := 1) hx hb dL_left_164 (by decide) ?_
          refine x_ald B G 18 s18 0 hT0 1 (show 1 < 64 from by omega) rfl (by decide) dL_left_165 ?_
          refine lv_icmp_gt (tgt := 173) hx hb dL_left_166 (by decide) (fun c_166 => ?_) (fun c_166 => ?_)
          · exact False.elim (absurd (show r ≤ V 18 1 by rw [e_r, w1]; exact (nI_leI (by omega) (by omega)).mpr m91) (i_nle.mpr c_166))
          · skip
            refine lv_iconst (v := 1) hx hb dL_left_169 (by decide) ?_
            refine lv_goto (tgt := 174) hx hb dL_left_170 (by decide) ?_
            exact x_aendz (Or.inr rfl) hA B G (⟨rfl, rfl, rfl, rfl⟩) (Nat.le_of_ble_eq_true rfl) (Nat.le_of_ble_eq_true rfl) dL_left_174
    · skip
      have c_100 : ¬ (9 ≤ kd) := fun h9 => c_100 ((nI_leI (a := 9) (b := kd) (by omega) (by omega)).mpr h9)
      obtain ⟨g_nb, g0, m9, m91, e_r⟩ := f2 (by omega) (by omega)
      refine lv_iload_n hx hb dL_left_103 rfl (lv_at hl 3 rfl) ?_
      refine lv_bipush (v := 20) hx hb dL_left_104 (by decide) ?_
      refine lv_icmp_gt (tgt := 135) hx hb dL_left_106 (by decide) (fun c_106 => ?_) (fun c_106 => ?_)
      · exact False.elim (absurd (show r ≤ 20 by rw [e_r]; exact (nI_leI (b := 20) (by omega) (by omega)).mpr (by omega)) (i_nle.mpr c_106))
      · skip
        refine lv_aload_n hx hb dL_left_109 rfl (lv_at hl 0 rfl) ?_
        refine x_callVi (rest := []) B G (t_clock l DL hI (TS.refl V)) (cwV 0 B.1.2.2.2.2 gL_left_X2_clock rfl rfl rfl (by decide +kernel) ⟨Nat.le_of_ble_eq_true rfl, Nat.le_of_ble_eq_true rfl⟩) (d_recv B G Dl) rfl hl.1 rfl (Nat.le_of_ble_eq_true rfl) ⟨Nat.le_of_ble_eq_true rfl, Nat.le_of_ble_eq_true rfl⟩ dL_left_110 (fun H locs G => ?_)
        refine lv_aload hx hb dL_left_113 (lv_at hl 4 rfl) ?_
        refine lv_iconst (v := 0) hx hb dL_left_115 (by decide) ?_
        refine x_ald B G 18 s18 0 hT0 0 (show 0 < 64 from by omega) rfl (by decide) dL_left_116 ?_
        refine lv_icmp_ne (tgt := 135) hx hb dL_left_117 (by decide) (fun c_117 => ?_) (fun c_117 => ?_)
        · exact False.elim (c_117 (g0.trans w0.symm))
        · skip
          refine lv_aload_n hx hb dL_left_120 rfl (lv_at hl 0 rfl) ?_
          refine x_callVi (rest := []) B G (t_bundles l DL hI (TS.refl V)) (cwV 0 B.1.2.2.2.2 gL_left_X2_bundles rfl rfl rfl (by decide +kernel) ⟨Nat.le_of_ble_eq_true rfl, Nat.le_of_ble_eq_true rfl⟩) (d_recv B G Dl) rfl hl.1 rfl (Nat.le_of_ble_eq_true rfl) ⟨Nat.le_of_ble_eq_true rfl, Nat.le_of_ble_eq_true rfl⟩ dL_left_121 (fun H locs G => ?_)
          refine lv_aload hx hb dL_left_124 (lv_at hl 4 rfl) ?_
          refine lv_iconst (v := 1) hx hb dL_left_126 (by decide) ?_
          refine x_ald B G 18 s18 0 hT0 1 (show 1 < 64 from by omega) rfl (by decide) dL_left_127 ?_
          refine lv_icmp_ne (tgt := 135) hx hb dL_left_128 (by decide) (fun c_128 => ?_) (fun c_128 => ?_)
          · exact False.elim (c_128 ((congrArg nI g_nb).trans w1.symm))
          · skip
            refine lv_iconst (v := 1) hx hb dL_left_131 (by decide) ?_
            refine lv_goto (tgt := 136) hx hb dL_left_132 (by decide) ?_
            exact x_aendz (Or.inr rfl) hA B G (⟨rfl, rfl, rfl, rfl⟩) (Nat.le_of_ble_eq_true rfl) (Nat.le_of_ble_eq_true rfl) dL_left_136
  · skip
    have c_2 : ¬ (4 ≤ kd) := fun h9 => c_2 ((nI_leI (a := 4) (b := kd) (by omega) (by omega)).mpr h9)
    obtain ⟨e_r, e_nb, f7, fb, f8, f9⟩ := f1 (by omega)
    refine lv_aload_n hx hb dL_left_5 rfl (lv_at hl 0 rfl) ?_
    refine x_callVi (rest := []) B G (t_bundles l DL hI (TS.refl V)) (cwV 0 B.1.2.2.2.2 gL_left_X2_bundles rfl rfl rfl (by decide +kernel) ⟨Nat.le_of_ble_eq_true rfl, Nat.le_of_ble_eq_true rfl⟩) (d_recv B G Dl) rfl hl.1 rfl (Nat.le_of_ble_eq_true rfl) ⟨Nat.le_of_ble_eq_true rfl, Nat.le_of_ble_eq_true rfl⟩ dL_left_6 (fun H locs G => ?_)
    refine lv_iconst (v := 1) hx hb dL_left_9 (by decide) ?_
    refine lv_isub hx hb dL_left_10 ?_
    refine x_top (show (nI nb) - 1 = nI nb0 from by rw [e_nb]; exact nI_pred nb0) ?_
    refine lv_istore (lv' := [(5, .int (nI nb0)), (0, .ref (ad 0)), (1, .int (nI kd)), (2, .int x), (3, .int r), (4, .ref (ad 18))]) hx hb dL_left_11 hl (by decide) rfl (fun ls hl => ?_)
    refine lv_iload_n hx hb dL_left_13 rfl (lv_at hl 4 rfl) ?_
    refine lv_aload hx hb dL_left_14 (lv_at hl 5 rfl) ?_
    refine lv_iconst (v := 1) hx hb dL_left_16 (by decide) ?_
    refine x_ald B G 18 s18 0 hT0 1 (show 1 < 64 from by omega) rfl (by decide) dL_left_17 ?_
    refine lv_icmp_ne (tgt := 95) hx hb dL_left_18 (by decide) (fun c_18 => ?_) (fun c_18 => ?_)
    · exact False.elim (c_18 (e_r.trans w1.symm))
    · skip
      refine lv_iload hx hb dL_left_21 (lv_at hl 0 rfl) ?_
      refine lv_iload_n hx hb dL_left_23 rfl (lv_at hl 4 rfl) ?_
      refine lv_icmp_ne (tgt := 95) hx hb dL_left_24 (by decide) (fun c_24 => ?_) (fun c_24 => ?_)
      · exact False.elim (c_24 e_r.symm)
      · skip
        refine lv_aload_n hx hb dL_left_27 rfl (lv_at hl 1 rfl) ?_
        refine lv_iload hx hb dL_left_28 (lv_at hl 0 rfl) ?_
        refine x_callVi (rest := []) B G ((t_fld (D := D) l DL hI (TS.refl V) (k := nb0) (by omega)).2.2.2.1) (cwV 1 B.1.2.2.2.2 gL_left_X2_custodian rfl rfl rfl (by decide +kernel) ⟨Nat.le_of_ble_eq_true rfl, Nat.le_of_ble_eq_true rfl⟩) (d_recv B G Dl) rfl hl.1 rfl (Nat.le_of_ble_eq_true rfl) ⟨Nat.le_of_ble_eq_true rfl, Nat.le_of_ble_eq_true rfl⟩ dL_left_30 (fun H locs G => ?_)
        refine lv_iload_n hx hb dL_left_33 rfl (lv_at hl 3 rfl) ?_
        refine lv_bipush (v := 9) hx hb dL_left_34 (by decide) ?_
        refine x_callSi (rest := [.int (V (20 + 4 * nb0) 7)]) B G (c_L_low l B.2.2.2.2.1 V x 9 (by decide) (by decide)) (va_cwS 2 B.1.2.2.2.2 gL_left_L_low rfl rfl rfl (by decide +kernel) ⟨Nat.le_of_ble_eq_true rfl, Nat.le_of_ble_eq_true rfl⟩) rfl hl.1 rfl (Nat.le_of_ble_eq_true rfl) ⟨Nat.le_of_ble_eq_true rfl, Nat.le_of_ble_eq_true rfl⟩ dL_left_36 (fun H locs G => ?_)
        refine lv_icmp_ne (tgt := 95) hx hb dL_left_39 (by decide) (fun c_39 => ?_) (fun c_39 => ?_)
        · exact False.elim (c_39 f7)
        · skip
          refine lv_aload_n hx hb dL_left_42 rfl (lv_at hl 1 rfl) ?_
          refine lv_iload hx hb dL_left_43 (lv_at hl 0 rfl) ?_
          refine x_callVi (rest := []) B G ((t_fld (D := D) l DL hI (TS.refl V) (k := nb0) (by omega)).2.2.2.2) (cwV 1 B.1.2.2.2.2 gL_left_X2_holders rfl rfl rfl (by decide +kernel) ⟨Nat.le_of_ble_eq_true rfl, Nat.le_of_ble_eq_true rfl⟩) (d_recv B G Dl) rfl hl.1 rfl (Nat.le_of_ble_eq_true rfl) ⟨Nat.le_of_ble_eq_true rfl, Nat.le_of_ble_eq_true rfl⟩ dL_left_45 (fun H locs G => ?_)
          refine lv_iconst (v := 1) hx hb dL_left_48 (by decide) ?_
          refine lv_iload_n hx hb dL_left_49 rfl (lv_at hl 3 rfl) ?_
          refine lv_bipush (v := 9) hx hb dL_left_50 (by decide) ?_
          refine x_callSi (rest := [.int 1, .int (cBits V (20 + 4 * nb0) 8)]) B G (c_L_low l B.2.2.2.2.1 V x 9 (by decide) (by decide)) (va_cwS 2 B.1.2.2.2.2 gL_left_L_low rfl rfl rfl (by decide +kernel) ⟨Nat.le_of_ble_eq_true rfl, Nat.le_of_ble_eq_true rfl⟩) rfl hl.1 rfl (Nat.le_of_ble_eq_true rfl) ⟨Nat.le_of_ble_eq_true rfl, Nat.le_of_ble_eq_true rfl⟩ dL_left_52 (fun H locs G => ?_)
          refine lv_ishl hx hb dL_left_55 ?_
          refine lv_icmp_ne (tgt := 95) hx hb dL_left_56 (by decide) (fun c_56 => ?_) (fun c_56 => ?_)
          · exact False.elim (c_56 fb)
          · skip
            refine lv_aload_n hx hb dL_left_59 rfl (lv_at hl 1 rfl) ?_
            refine lv_iload hx hb dL_left_60 (lv_at hl 0 rfl) ?_
            refine x_callVi (rest := []) B G ((t_fld (D := D) l DL hI (TS.refl V) (k := nb0) (by omega)).2.1) (cwV 1 B.1.2.2.2.2 gL_left_X2_deliveredAt rfl rfl rfl (by decide +kernel) ⟨Nat.le_of_ble_eq_true rfl, Nat.le_of_ble_eq_true rfl⟩) (d_recv B G Dl) rfl hl.1 rfl (Nat.le_of_ble_eq_true rfl) ⟨Nat.le_of_ble_eq_true rfl, Nat.le_of_ble_eq_true rfl⟩ dL_left_62 (fun H locs G => ?_)
            refine lv_iconst (v := (-1)) hx hb dL_left_65 (by decide) ?_
            refine lv_icmp_ne (tgt := 95) hx hb dL_left_66 (by decide) (fun c_66 => ?_) (fun c_66 => ?_)
            · exact False.elim (c_66 f8)
            · skip
              refine lv_aload_n hx hb dL_left_69 rfl (lv_at hl 1 rfl) ?_
              refine lv_iload hx hb dL_left_70 (lv_at hl 0 rfl) ?_
              refine x_callVi (rest := []) B G ((t_fld (D := D) l DL hI (TS.refl V) (k := nb0) (by omega)).2.2.1) (cwV 1 B.1.2.2.2.2 gL_left_X2_hops rfl rfl rfl (by decide +kernel) ⟨Nat.le_of_ble_eq_true rfl, Nat.le_of_ble_eq_true rfl⟩) (d_recv B G Dl) rfl hl.1 rfl (Nat.le_of_ble_eq_true rfl) ⟨Nat.le_of_ble_eq_true rfl, Nat.le_of_ble_eq_true rfl⟩ dL_left_72 (fun H locs G => ?_)
              refine lv_if_ne (tgt := 95) hx hb dL_left_75 (by decide) (fun c_75 => ?_) (fun c_75 => ?_)
              · exact False.elim (c_75 f9)
              · skip
                refine lv_aload_n hx hb dL_left_78 rfl (lv_at hl 1 rfl) ?_
                refine lv_iload hx hb dL_left_79 (lv_at hl 0 rfl) ?_
                refine lv_iconst (v := 1) hx hb dL_left_81 (by decide) ?_
                refine lv_iadd hx hb dL_left_82 ?_
                refine x_top (show (nI nb0) + 1 = nI (nb0 + 1) from nI_add nb0 1) ?_
                refine x_callSw (rest := []) B E F hN G (w_end_bad l hst DW V hI.1.1 hI.1.2.1 (nI (nb0 + 1)) (fun z => by have q := (nI_ltI (a := nb0 + 1) (b := nb) (by omega) (by omega)).mp z.2; omega)) (vx_cwSW 2 B.1.2.2.2.2 gL_left_L_end rfl rfl rfl (by decide +kernel) ⟨Nat.le_of_ble_eq_true rfl, Nat.le_of_ble_eq_true rfl⟩) rfl hl.1 rfl (Nat.le_of_ble_eq_true rfl) ⟨Nat.le_of_ble_eq_true rfl, Nat.le_of_ble_eq_true rfl⟩ dL_left_83 (fun v sh9 ad9 V9 H locs hR B G => ?_)
                obtain ⟨hv9, h91, h92, h93⟩ := hR
                rw [h91, h92, h93] at G
                rw [h91, h92] at B
                subst hv9
                refine W.eq (g2 := F0 m 86 ls [.int (-2)]) rfl ?_
                refine lv_bipush (v := (-2)) hx hb dL_left_86 (by decide) ?_
                refine lv_icmp_ne (tgt := 95) hx hb dL_left_88 (by decide) (fun c_88 => ?_) (fun c_88 => ?_)
                · exact False.elim (c_88 rfl)
                · skip
                  refine lv_iconst (v := 1) hx hb dL_left_91 (by decide) ?_
                  refine lv_goto (tgt := 96) hx hb dL_left_92 (by decide) ?_
                  exact x_aendz (Or.inr rfl) hA B G (⟨rfl, rfl, rfl, rfl⟩) (Nat.le_of_ble_eq_true rfl) (Nat.le_of_ble_eq_true rfl) dL_left_96
