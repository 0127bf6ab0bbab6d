section XMN
variable {p : Program} {l : Launch} {e : Env} {R : Room} {s : State} {m : MethodId} {args : Array Value} {below : List Frame} {meth : Method} {c : Code} {H : Heap} {locs : List Loc} {cells slots : Nat} {Q : State → Prop}
variable {cc : ByteArray} {nL : Nat} {ret : Option FieldType} {Ts : List Cond} {own : String} {D : va_G} {sh : xS} {ad : Nat → Nat} {A : Nat → Prop} {tys : List (ClassId × FieldType)} {V : xV} {pc : Nat} {ls : Array Slot} {rest : List Value}
theorem x_mmin (B : xB p s m args meth c cc nL ret Ts own D sh ad A tys) {index : Nat} {x y : Int32} (hsz : ls.size = nL) (hlink : Cond.methodLink own index Lib.Math.min.name ∈ Ts) (hstat : Cond.static Lib.Math.min.name ∈ Ts) (hinit : Cond.initialized "java/lang/Math" ∈ Ts) (hcode : Cond.code Lib.Math.min.name Lib.Math.min.code 2 (some .int) ∈ Ts)
    (hdg : decode cc pc = .ok (.invokestatic index, 3)) (hfr : 1 ≤ R.frames) (hlo : (rest.map fun v => v.category).sum + 13 ≤ R.locals) (hcs : cells ≤ R.cells ∧ slots ≤ R.slots)
    (kk : W p l e R s m args below meth c H locs cells slots Q (F0 m (pc + 3) ls (.int (if y < x then y else x) :: rest))) : W p l e R s m args below meth c H locs cells slots Q (F0 m pc ls (.int y :: .int x :: rest)) := by
  obtain ⟨⟨hx, hb, hml, hown, hts⟩, -⟩ := B
  exact va_mmin hx hb (by rw [hml, hsz]) hown (hts _ hlink) (hts _ hstat) (hts _ hinit) (hts _ hcode) hfr hlo hcs.1 hcs.2 hdg kk
end XMN
set_option maxHeartbeats 4000000 in
set_option maxRecDepth 100000 in
theorem c_X2_checkNode_ok (l : Launch) {D : va_G} {sh : xS} {ad : Nat → Nat} {tys : List (ClassId × FieldType)} (hI : xI sh ad) (V : xV) (n : Nat) (hn : n < 8) : xMv l yX2_checkNode wsX2_checkNode (rmK 2) D sh ad tys V [.int (nI n)] V := by
  refine xOfv (cc := cX2_checkNode) (nL := 1) (ret := none) (own := RX2) (by decide) rfl rfl (Nat.le_of_ble_eq_true rfl) hI ?_
  intro p e s m args below meth c A ls B G hl
  have hx := B.1.1
  have hb := B.1.2.1
  have hl : lv_has ls 1 [(0, .int (nI n))] := hl
  refine lv_iload_n hx hb dX2_checkNode_0 rfl (lv_at hl 0 rfl) ?_
  refine x_callSi (rest := []) B G (c_X2_isNode l hI V (nI n)) (va_cwS 1 B.1.2.2.2.2 gX2_checkNode_X2_isNode rfl rfl rfl (by decide +kernel) ⟨Nat.le_of_ble_eq_true rfl, Nat.le_of_ble_eq_true rfl⟩) rfl hl.1 rfl (Nat.le_of_ble_eq_true rfl) ⟨Nat.zero_le _, Nat.zero_le _⟩ dX2_checkNode_1 (fun H locs G => ?_)
  refine lv_if_ne (tgt := 17) hx hb dX2_checkNode_4 (by decide) (fun c_4 => ?_) (fun c_4 => ?_)
  · skip
    exact x_vret B G (rfl) dX2_checkNode_17
  · exact False.elim (b2i_0.mp c_4 (nodeOK hn))
set_option maxHeartbeats 4000000 in
set_option maxRecDepth 100000 in
theorem c_X2_numbered_ok (l : Launch) {D : va_G} {sh : xS} {ad : Nat → Nat} {cI cZ cO : ClassId} {tys : List (ClassId × FieldType)} {nb : Nat} {od : Nat → Nat} (DL : xDl sh ad cI cZ cO tys nb od) (V : xV) (h4 : V 4 2 = nI nb) (h5 : V 5 2 = nI nb) (k : Nat) (hk : k < nb) : xMq l yX2_numbered wsX2_numbered (rmK 3) D sh ad tys V [.ref (ad 0), .int (nI k)] (some (ad (20 + 4 * k))) V := by
  refine xOfq (cc := cX2_numbered) (nL := 2) (ret := some (.object "Delaypouch$Bundle")) (own := RX2) (by decide) rfl rfl (Nat.le_of_ble_eq_true rfl) DL.2.2.2.2.2.2.1.2.2 ?_
  intro p e s m args below meth c A ls B G hl
  have hx := B.1.1
  have hb := B.1.2.1
  have hin2 : ∀ w ∈ wsX20, w ∈ wsX2_numbered := by decide +kernel
  have hinL : ∀ w ∈ wsJx4a65c0, w ∈ wsX2_numbered := by decide +kernel
  have hl : lv_has ls 2 [(0, .ref (ad 0)), (1, .int (nI k))] := hl
  obtain ⟨Dl, Pl, L4, L5, Bs, od_lt, Cx, tO, hn40⟩ := id DL
  obtain ⟨a4, s4, -⟩ := id L4
  obtain ⟨a5, s5, -⟩ := id L5
  refine lv_iload_n hx hb dX2_numbered_0 rfl (lv_at hl 1 rfl) ?_
  refine lv_if_lt (tgt := 15) hx hb dX2_numbered_1 (by decide) (fun c_1 => ?_) (fun c_1 => ?_)
  · exact False.elim (absurd ((nI_ltI (a := k) (b := 0) (by omega) (by omega)).mp c_1) (by omega))
  · skip
    refine lv_iload_n hx hb dX2_numbered_4 rfl (lv_at hl 1 rfl) ?_
    refine lv_aload_n hx hb dX2_numbered_5 rfl (lv_at hl 0 rfl) ?_
    refine d_getA B G Dl hin2 4 (by decide) (by decide +kernel) dX2_numbered_6 ?_
    refine x_callVi (rest := [.int (nI k)]) B G (c_size l Cx.2.2 V 4 s4) (cwV 0 B.1.2.2.2.2 gX2_numbered_Jx4a65c_size_8abf5 rfl rfl rfl (by decide +kernel) ⟨Nat.le_of_ble_eq_true rfl, Nat.le_of_ble_eq_true rfl⟩) (l_recv B G 4 s4) rfl hl.1 rfl (Nat.le_of_ble_eq_true rfl) ⟨Nat.zero_le _, Nat.zero_le _⟩ dX2_numbered_9 (fun H locs G => ?_)
    refine x_top (show _ = nI nb from h4) ?_
    refine lv_icmp_lt (tgt := 25) hx hb dX2_numbered_12 (by decide) (fun c_12 => ?_) (fun c_12 => ?_)
    · skip
      have c_12 : k < nb := (nI_ltI (a := k) (b := nb) (by omega) (by omega)).mp c_12
      refine lv_aload_n hx hb dX2_numbered_25 rfl (lv_at hl 0 rfl) ?_
      refine d_getA B G Dl hin2 4 (by decide) (by decide +kernel) dX2_numbered_26 ?_
      refine lv_iload_n hx hb dX2_numbered_29 rfl (lv_at hl 1 rfl) ?_
      refine x_callVq (rest := []) B G (c_get l tO Cx.2.2 V L4 k (by omega) (by omega) h4) (cwV 1 B.1.2.2.2.2 gX2_numbered_Jx4a65c_get_915e3 rfl rfl rfl (by decide +kernel) ⟨Nat.le_of_ble_eq_true rfl, Nat.le_of_ble_eq_true rfl⟩) (l_recv B G 4 s4) rfl hl.1 rfl (Nat.le_of_ble_eq_true rfl) ⟨Nat.zero_le _, Nat.zero_le _⟩ dX2_numbered_30 (fun H locs G => ?_)
      refine x_cast B G (20 + 4 * k) (Bs k (by omega)).1 (q := (RX0, TX0, 11)) rfl (by decide +kernel) dX2_numbered_33 ?_
      exact x_qret B G (Or.inl ⟨_, rfl⟩) (rfl) (rfl) dX2_numbered_36
    · exact False.elim (c_12 ((nI_ltI (a := k) (b := nb) (by omega) (by omega)).mpr hk))
set_option maxHeartbeats 4000000 in
set_option maxRecDepth 100000 in
theorem c_X2_clock (l : Launch) {D : va_G} {sh : xS} {ad : Nat → Nat} {cI cZ cO : ClassId} {tys : List (ClassId × FieldType)} {nb : Nat} {od : Nat → Nat} (DL : xDl sh ad cI cZ cO tys nb od) (V : xV) (h4 : V 4 2 = nI nb) (h5 : V 5 2 = nI nb) : xMi l yX2_clock wsX2_clock (rmK 4) D sh ad tys V [.ref (ad 0)] (V 0 0) V := by
  refine xOfi (cc := cX2_clock) (nL := 1) (ret := some .int) (own := RX2) (by decide) rfl rfl (Nat.le_of_ble_eq_true rfl) DL.2.2.2.2.2.2.1.2.2 ?_
  intro p e s m args below meth c A ls B G hl
  have hx := B.1.1
  have hb := B.1.2.1
  have hin2 : ∀ w ∈ wsX20, w ∈ wsX2_clock := by decide +kernel
  have hl : lv_has ls 1 [(0, .ref (ad 0))] := hl
  obtain ⟨Dl, Pl, L4, L5, Bs, od_lt, Cx, tO, hn40⟩ := id DL
  obtain ⟨a4, s4, -⟩ := id L4
  obtain ⟨a5, s5, -⟩ := id L5
  refine lv_aload_n hx hb dX2_clock_0 rfl (lv_at hl 0 rfl) ?_
  refine d_getI B G Dl hin2 (by decide +kernel) dX2_clock_1 ?_
  exact x_iret B G (rfl) (rfl) dX2_clock_4
set_option maxHeartbeats 4000000 in
set_option maxRecDepth 100000 in
theorem c_X2_bundles (l : Launch) {D : va_G} {sh : xS} {ad : Nat → Nat} {cI cZ cO : ClassId} {tys : List (ClassId × FieldType)} {nb : Nat} {od : Nat → Nat} (DL : xDl sh ad cI cZ cO tys nb od) (V : xV) (h4 : V 4 2 = nI nb) (h5 : V 5 2 = nI nb) : xMi l yX2_bundles wsX2_bundles (rmK 4) D sh ad tys V [.ref (ad 0)] (V 4 2) V := by
  refine xOfi (cc := cX2_bundles) (nL := 1) (ret := some .int) (own := RX2) (by decide) rfl rfl (Nat.le_of_ble_eq_true rfl) DL.2.2.2.2.2.2.1.2.2 ?_
  intro p e s m args below meth c A ls B G hl
  have hx := B.1.1
  have hb := B.1.2.1
  have hin2 : ∀ w ∈ wsX20, w ∈ wsX2_bundles := by decide +kernel
  have hinL : ∀ w ∈ wsJx4a65c0, w ∈ wsX2_bundles := by decide +kernel
  have hl : lv_has ls 1 [(0, .ref (ad 0))] := hl
  obtain ⟨Dl, Pl, L4, L5, Bs, od_lt, Cx, tO, hn40⟩ := id DL
  obtain ⟨a4, s4, -⟩ := id L4
  obtain ⟨a5, s5, -⟩ := id L5
  refine lv_aload_n hx hb dX2_bundles_0 rfl (lv_at hl 0 rfl) ?_
  refine d_getA B G Dl hin2 4 (by decide) (by decide +kernel) dX2_bundles_1 ?_
  refine x_callVi (rest := []) B G (c_size l Cx.2.2 V 4 s4) (cwV 0 B.1.2.2.2.2 gX2_bundles_Jx4a65c_size_8abf5 rfl rfl rfl (by decide +kernel) ⟨Nat.le_of_ble_eq_true rfl, Nat.le_of_ble_eq_true rfl⟩) (l_recv B G 4 s4) rfl hl.1 rfl (Nat.le_of_ble_eq_true rfl) ⟨Nat.zero_le _, Nat.zero_le _⟩ dX2_bundles_4 (fun H locs G => ?_)
  exact x_iret B G (rfl) (rfl) dX2_bundles_7
set_option maxHeartbeats 4000000 in
set_option maxRecDepth 100000 in
theorem c_X2_endOf_ok (l : Launch) {D : va_G} {sh : xS} {ad : Nat → Nat} {cI cZ cO : ClassId} {tys : List (ClassId × FieldType)} {nb : Nat} {od : Nat → Nat} (DL : xDl sh ad cI cZ cO tys nb od) (V : xV) (h4 : V 4 2 = nI nb) (h5 : V 5 2 = nI nb) (k : Nat) (hk : k < nb) : xMi l yX2_endOf wsX2_endOf (rmK 4) D sh ad tys V [.ref (ad 0), .int (nI k)] (V (20 + 4 * k) 3) V := by
  refine xOfi (cc := cX2_endOf) (nL := 2) (ret := some .int) (own := RX2) (by decide) rfl rfl (Nat.le_of_ble_eq_true rfl) DL.2.2.2.2.2.2.1.2.2 ?_
  intro p e s m args below meth c A ls B G hl
  have hx := B.1.1
  have hb := B.1.2.1
  have hin0 : ∀ w ∈ wsX00, w ∈ wsX2_endOf := by decide +kernel
  have hin2 : ∀ w ∈ wsX20, w ∈ wsX2_endOf := by decide +kernel
  have hinL : ∀ w ∈ wsJx4a65c0, w ∈ wsX2_endOf := by decide +kernel
  have hl : lv_has ls 2 [(0, .ref (ad 0)), (1, .int (nI k))] := hl
  obtain ⟨Dl, Pl, L4, L5, Bs, od_lt, Cx, tO, hn40⟩ := id DL
  obtain ⟨a4, s4, -⟩ := id L4
  obtain ⟨a5, s5, -⟩ := id L5
  refine lv_aload_n hx hb dX2_endOf_0 rfl (lv_at hl 0 rfl) ?_
  refine lv_iload_n hx hb dX2_endOf_1 rfl (lv_at hl 1 rfl) ?_
  refine x_callVq (rest := []) B G (c_X2_numbered_ok l DL V h4 h5 k hk) (cwV 1 B.1.2.2.2.2 gX2_endOf_X2_numbered rfl rfl rfl (by decide +kernel) ⟨Nat.le_of_ble_eq_true rfl, Nat.le_of_ble_eq_true rfl⟩) (d_recv B G Dl) rfl hl.1 rfl (Nat.le_of_ble_eq_true rfl) ⟨Nat.zero_le _, Nat.zero_le _⟩ dX2_endOf_2 (fun H locs G => ?_)
  refine b_getI B G (Bs k hk) hin0 3 (by decide) (by decide +kernel) dX2_endOf_5 ?_
  exact x_iret B G (rfl) (rfl) dX2_endOf_8
set_option maxHeartbeats 4000000 in
set_option maxRecDepth 100000 in
theorem c_X2_deliveredAt_ok (l : Launch) {D : va_G} {sh : xS} {ad : Nat → Nat} {cI cZ cO : ClassId} {tys : List (ClassId × FieldType)} {nb : Nat} {od : Nat → Nat} (DL : xDl sh ad cI cZ cO tys nb od) (V : xV) (h4 : V 4 2 = nI nb) (h5 : V 5 2 = nI nb) (k : Nat) (hk : k < nb) : xMi l yX2_deliveredAt wsX2_deliveredAt (rmK 4) D sh ad tys V [.ref (ad 0), .int (nI k)] (V (20 + 4 * k) 8) V := by
  refine xOfi (cc := cX2_deliveredAt) (nL := 2) (ret := some .int) (own := RX2) (by decide) rfl rfl (Nat.le_of_ble_eq_true rfl) DL.2.2.2.2.2.2.1.2.2 ?_
  intro p e s m args below meth c A ls B G hl
  have hx := B.1.1
  have hb := B.1.2.1
  have hin0 : ∀ w ∈ wsX00, w ∈ wsX2_deliveredAt := by decide +kernel
  have hin2 : ∀ w ∈ wsX20, w ∈ wsX2_deliveredAt := by decide +kernel
  have hinL : ∀ w ∈ wsJx4a65c0, w ∈ wsX2_deliveredAt := by decide +kernel
  have hl : lv_has ls 2 [(0, .ref (ad 0)), (1, .int (nI k))] := hl
  obtain ⟨Dl, Pl, L4, L5, Bs, od_lt, Cx, tO, hn40⟩ := id DL
  obtain ⟨a4, s4, -⟩ := id L4
  obtain ⟨a5, s5, -⟩ := id L5
  refine lv_aload_n hx hb dX2_deliveredAt_0 rfl (lv_at hl 0 rfl) ?_
  refine lv_iload_n hx hb dX2_deliveredAt_1 rfl (lv_at hl 1 rfl) ?_
  refine x_callVq (rest := []) B G (c_X2_numbered_ok l DL V h4 h5 k hk) (cwV 1 B.1.2.2.2.2 gX2_deliveredAt_X2_numbered rfl rfl rfl (by decide +kernel) ⟨Nat.le_of_ble_eq_true rfl, Nat.le_of_ble_eq_true rfl⟩) (d_recv B G Dl) rfl hl.1 rfl (Nat.le_of_ble_eq_true rfl) ⟨Nat.zero_le _, Nat.zero_le _⟩ dX2_deliveredAt_2 (fun H locs G => ?_)
  refine b_getI B G (Bs k hk) hin0 8 (by decide) (by decide +kernel) dX2_deliveredAt_5 ?_
  exact x_iret B G (rfl) (rfl) dX2_deliveredAt_8
set_option maxHeartbeats 4000000 in
set_option maxRecDepth 100000 in
theorem c_X2_hops_ok (l : Launch) {D : va_G} {sh : xS} {ad : Nat → Nat} {cI cZ cO : ClassId} {tys : List (ClassId × FieldType)} {nb : Nat} {od : Nat → Nat} (DL : xDl sh ad cI cZ cO tys nb od) (V : xV) (h4 : V 4 2 = nI nb) (h5 : V 5 2 = nI nb) (k : Nat) (hk : k < nb) : xMi l yX2_hops wsX2_hops (rmK 4) D sh ad tys V [.ref (ad 0), .int (nI k)] (V (20 + 4 * k) 9) V := by
  refine xOfi (cc := cX2_hops) (nL := 2) (ret := some .int) (own := RX2) (by decide) rfl rfl (Nat.le_of_ble_eq_true rfl) DL.2.2.2.2.2.2.1.2.2 ?_
  intro p e s m args below meth c A ls B G hl
  have hx := B.1.1
  have hb := B.1.2.1
  have hin0 : ∀ w ∈ wsX00, w ∈ wsX2_hops := by decide +kernel
  have hin2 : ∀ w ∈ wsX20, w ∈ wsX2_hops := by decide +kernel
  have hinL : ∀ w ∈ wsJx4a65c0, w ∈ wsX2_hops := by decide +kernel
  have hl : lv_has ls 2 [(0, .ref (ad 0)), (1, .int (nI k))] := hl
  obtain ⟨Dl, Pl, L4, L5, Bs, od_lt, Cx, tO, hn40⟩ := id DL
  obtain ⟨a4, s4, -⟩ := id L4
  obtain ⟨a5, s5, -⟩ := id L5
  refine lv_aload_n hx hb dX2_hops_0 rfl (lv_at hl 0 rfl) ?_
  refine lv_iload_n hx hb dX2_hops_1 rfl (lv_at hl 1 rfl) ?_
  refine x_callVq (rest := []) B G (c_X2_numbered_ok l DL V h4 h5 k hk) (cwV 1 B.1.2.2.2.2 gX2_hops_X2_numbered rfl rfl rfl (by decide +kernel) ⟨Nat.le_of_ble_eq_true rfl, Nat.le_of_ble_eq_true rfl⟩) (d_recv B G Dl) rfl hl.1 rfl (Nat.le_of_ble_eq_true rfl) ⟨Nat.zero_le _, Nat.zero_le _⟩ dX2_hops_2 (fun H locs G => ?_)
  refine b_getI B G (Bs k hk) hin0 9 (by decide) (by decide +kernel) dX2_hops_5 ?_
  exact x_iret B G (rfl) (rfl) dX2_hops_8
set_option maxHeartbeats 4000000 in
set_option maxRecDepth 100000 in
theorem c_X2_custodian_ok (l : Launch) {D : va_G} {sh : xS} {ad : Nat → Nat} {cI cZ cO : ClassId} {tys : List (ClassId × FieldType)} {nb : Nat} {od : Nat → Nat} (DL : xDl sh ad cI cZ cO tys nb od) (V : xV) (h4 : V 4 2 = nI nb) (h5 : V 5 2 = nI nb) (k : Nat) (hk : k < nb) : xMi l yX2_custodian wsX2_custodian (rmK 4) D sh ad tys V [.ref (ad 0), .int (nI k)] (V (20 + 4 * k) 7) V := by
  refine xOfi (cc := cX2_custodian) (nL := 2) (ret := some .int) (own := RX2) (by decide) rfl rfl (Nat.le_of_ble_eq_true rfl) DL.2.2.2.2.2.2.1.2.2 ?_
  intro p e s m args below meth c A ls B G hl
  have hx := B.1.1
  have hb := B.1.2.1
  have hin0 : ∀ w ∈ wsX00, w ∈ wsX2_custodian := by decide +kernel
  have hin2 : ∀ w ∈ wsX20, w ∈ wsX2_custodian := by decide +kernel
  have hinL : ∀ w ∈ wsJx4a65c0, w ∈ wsX2_custodian := by decide +kernel
  have hl : lv_has ls 2 [(0, .ref (ad 0)), (1, .int (nI k))] := hl
  obtain ⟨Dl, Pl, L4, L5, Bs, od_lt, Cx, tO, hn40⟩ := id DL
  obtain ⟨a4, s4, -⟩ := id L4
  obtain ⟨a5, s5, -⟩ := id L5
  refine lv_aload_n hx hb dX2_custodian_0 rfl (lv_at hl 0 rfl) ?_
  refine lv_iload_n hx hb dX2_custodian_1 rfl (lv_at hl 1 rfl) ?_
  refine x_callVq (rest := []) B G (c_X2_numbered_ok l DL V h4 h5 k hk) (cwV 1 B.1.2.2.2.2 gX2_custodian_X2_numbered rfl rfl rfl (by decide +kernel) ⟨Nat.le_of_ble_eq_true rfl, Nat.le_of_ble_eq_true rfl⟩) (d_recv B G Dl) rfl hl.1 rfl (Nat.le_of_ble_eq_true rfl) ⟨Nat.zero_le _, Nat.zero_le _⟩ dX2_custodian_2 (fun H locs G => ?_)
  refine b_getI B G (Bs k hk) hin0 7 (by decide) (by decide +kernel) dX2_custodian_5 ?_
  exact x_iret B G (rfl) (rfl) dX2_custodian_8
set_option maxHeartbeats 4000000 in
set_option maxRecDepth 100000 in
theorem c_X2_copies_ok (l : Launch) {D : va_G} {sh : xS} {ad : Nat → Nat} {cI cZ cO : ClassId} {tys : List (ClassId × FieldType)} {nb : Nat} {od : Nat → Nat} (DL : xDl sh ad cI cZ cO tys nb od) (V : xV) (h4 : V 4 2 = nI nb) (h5 : V 5 2 = nI nb) (n k : Nat) (hn : n < 8) (hk : k < nb) : xMi l yX2_copies wsX2_copies (rmK 4) D sh ad tys V [.ref (ad 0), .int (nI n), .int (nI k)] (V (20 + 4 * k + 1) n) V := by
  refine xOfi (cc := cX2_copies) (nL := 3) (ret := some .int) (own := RX2) (by decide) rfl rfl (Nat.le_of_ble_eq_true rfl) DL.2.2.2.2.2.2.1.2.2 ?_
  intro p e s m args below meth c A ls B G hl
  have hx := B.1.1
  have hb := B.1.2.1
  have hin0 : ∀ w ∈ wsX00, w ∈ wsX2_copies := by decide +kernel
  have hin2 : ∀ w ∈ wsX20, w ∈ wsX2_copies := by decide +kernel
  have hinL : ∀ w ∈ wsJx4a65c0, w ∈ wsX2_copies := by decide +kernel
  have hl : lv_has ls 3 [(0, .ref (ad 0)), (1, .int (nI n)), (2, .int (nI k))] := hl
  obtain ⟨Dl, Pl, L4, L5, Bs, od_lt, Cx, tO, hn40⟩ := id DL
  obtain ⟨a4, s4, -⟩ := id L4
  obtain ⟨a5, s5, -⟩ := id L5
  refine lv_iload_n hx hb dX2_copies_0 rfl (lv_at hl 1 rfl) ?_
  refine x_callSv (rest := []) B G (c_X2_checkNode_ok l Cx.2.2 V n hn) (va_cwS 1 B.1.2.2.2.2 gX2_copies_X2_checkNode rfl rfl rfl (by decide +kernel) ⟨Nat.le_of_ble_eq_true rfl, Nat.le_of_ble_eq_true rfl⟩) rfl hl.1 rfl (Nat.le_of_ble_eq_true rfl) ⟨Nat.zero_le _, Nat.zero_le _⟩ dX2_copies_1 (fun H locs G => ?_)
  refine lv_aload_n hx hb dX2_copies_4 rfl (lv_at hl 0 rfl) ?_
  refine lv_iload_n hx hb dX2_copies_5 rfl (lv_at hl 2 rfl) ?_
  refine x_callVq (rest := []) B G (c_X2_numbered_ok l DL V h4 h5 k hk) (cwV 1 B.1.2.2.2.2 gX2_copies_X2_numbered rfl rfl rfl (by decide +kernel) ⟨Nat.le_of_ble_eq_true rfl, Nat.le_of_ble_eq_true rfl⟩) (d_recv B G Dl) rfl hl.1 rfl (Nat.le_of_ble_eq_true rfl) ⟨Nat.zero_le _, Nat.zero_le _⟩ dX2_copies_6 (fun H locs G => ?_)
  refine b_getA B G (Bs k hk) hin0 4 (by decide) (by decide +kernel) dX2_copies_9 ?_
  refine lv_iload_n hx hb dX2_copies_12 rfl (lv_at hl 1 rfl) ?_
  refine x_ald B G (20 + 4 * k + 1) (Bs k hk).2.1 0 Cx.1 n (show n < 8 from by omega) rfl (by decide) dX2_copies_13 ?_
  exact x_iret B G (rfl) (rfl) dX2_copies_14
set_option maxHeartbeats 4000000 in
set_option maxRecDepth 100000 in
theorem c_X2_knows_ok (l : Launch) {D : va_G} {sh : xS} {ad : Nat → Nat} {cI cZ cO : ClassId} {tys : List (ClassId × FieldType)} {nb : Nat} {od : Nat → Nat} (DL : xDl sh ad cI cZ cO tys nb od) (V : xV) (h4 : V 4 2 = nI nb) (h5 : V 5 2 = nI nb) (n k : Nat) (hn : n < 8) (hk : k < nb) (hz : V (20 + 4 * k + 3) n = 0 ∨ V (20 + 4 * k + 3) n = 1) : xMi l yX2_knows wsX2_knows (rmK 4) D sh ad tys V [.ref (ad 0), .int (nI n), .int (nI k)] (V (20 + 4 * k + 3) n) V := by
  refine xOfi (cc := cX2_knows) (nL := 3) (ret := some .boolean) (own := RX2) (by decide) rfl rfl (Nat.le_of_ble_eq_true rfl) DL.2.2.2.2.2.2.1.2.2 ?_
  intro p e s m args below meth c A ls B G hl
  have hx := B.1.1
  have hb := B.1.2.1
  have hin0 : ∀ w ∈ wsX00, w ∈ wsX2_knows := by decide +kernel
  have hin2 : ∀ w ∈ wsX20, w ∈ wsX2_knows := by decide +kernel
  have hinL : ∀ w ∈ wsJx4a65c0, w ∈ wsX2_knows := by decide +kernel
  have hl : lv_has ls 3 [(0, .ref (ad 0)), (1, .int (nI n)), (2, .int (nI k))] := hl
  obtain ⟨Dl, Pl, L4, L5, Bs, od_lt, Cx, tO, hn40⟩ := id DL
  obtain ⟨a4, s4, -⟩ := id L4
  obtain ⟨a5, s5, -⟩ := id L5
  refine lv_iload_n hx hb dX2_knows_0 rfl (lv_at hl 1 rfl) ?_
  refine x_callSv (rest := []) B G (c_X2_checkNode_ok l Cx.2.2 V n hn) (va_cwS 1 B.1.2.2.2.2 gX2_knows_X2_checkNode rfl rfl rfl (by decide +kernel) ⟨Nat.le_of_ble_eq_true rfl, Nat.le_of_ble_eq_true rfl⟩) rfl hl.1 rfl (Nat.le_of_ble_eq_true rfl) ⟨Nat.zero_le _, Nat.zero_le _⟩ dX2_knows_1 (fun H locs G => ?_)
  refine lv_aload_n hx hb dX2_knows_4 rfl (lv_at hl 0 rfl) ?_
  refine lv_iload_n hx hb dX2_knows_5 rfl (lv_at hl 2 rfl) ?_
  refine x_callVq (rest := []) B G (c_X2_numbered_ok l DL V h4 h5 k hk) (cwV 1 B.1.2.2.2.2 gX2_knows_X2_numbered rfl rfl rfl (by decide +kernel) ⟨Nat.le_of_ble_eq_true rfl, Nat.le_of_ble_eq_true rfl⟩) (d_recv B G Dl) rfl hl.1 rfl (Nat.le_of_ble_eq_true rfl) ⟨Nat.zero_le _, Nat.zero_le _⟩ dX2_knows_6 (fun H locs G => ?_)
  refine b_getA B G (Bs k hk) hin0 6 (by decide) (by decide +kernel) dX2_knows_9 ?_
  refine lv_iload_n hx hb dX2_knows_12 rfl (lv_at hl 1 rfl) ?_
  refine x_zald B G (20 + 4 * k + 3) (Bs k hk).2.2.2 1 Cx.2.1 n (show n < 8 from by omega) rfl (by decide) dX2_knows_13 ?_
  exact x_zret B G (hz) (rfl) (rfl) dX2_knows_14
set_option maxHeartbeats 4000000 in
set_option maxRecDepth 100000 in
theorem c_X2_held_ok (l : Launch) {D : va_G} {sh : xS} {ad : Nat → Nat} {cI cZ cO : ClassId} {tys : List (ClassId × FieldType)} {nb : Nat} {od : Nat → Nat} (DL : xDl sh ad cI cZ cO tys nb od) (V : xV) (h4 : V 4 2 = nI nb) (h5 : V 5 2 = nI nb) (n : Nat) (hn : n < 8) : xMi l yX2_held wsX2_held (rmK 4) D sh ad tys V [.ref (ad 0), .int (nI n)] (nI (cntP (cHas V n) nb)) V := by
  refine xOfi (cc := cX2_held) (nL := 2) (ret := some .int) (own := RX2) (by decide) rfl rfl (Nat.le_of_ble_eq_true rfl) DL.2.2.2.2.2.2.1.2.2 ?_
  intro p e s m args below meth c A ls B G hl
  have hx := B.1.1
  have hb := B.1.2.1
  have hin0 : ∀ w ∈ wsX00, w ∈ wsX2_held := by decide +kernel
  have hin2 : ∀ w ∈ wsX20, w ∈ wsX2_held := by decide +kernel
  have hinL : ∀ w ∈ wsJx4a65c0, w ∈ wsX2_held := by decide +kernel
  have hl : lv_has ls 2 [(0, .ref (ad 0)), (1, .int (nI n))] := hl
  obtain ⟨Dl, Pl, L4, L5, Bs, od_lt, Cx, tO, hn40⟩ := id DL
  obtain ⟨a4, s4, -⟩ := id L4
  obtain ⟨a5, s5, -⟩ := id L5
  refine lv_iload_n hx hb dX2_held_0 rfl (lv_at hl 1 rfl) ?_
  refine x_callSv (rest := []) B G (c_X2_checkNode_ok l Cx.2.2 V n hn) (va_cwS 1 B.1.2.2.2.2 gX2_held_X2_checkNode rfl rfl rfl (by decide +kernel) ⟨Nat.le_of_ble_eq_true rfl, Nat.le_of_ble_eq_true rfl⟩) rfl hl.1 rfl (Nat.le_of_ble_eq_true rfl) ⟨Nat.zero_le _, Nat.zero_le _⟩ dX2_held_1 (fun H locs G => ?_)
  refine lv_aload_n hx hb dX2_held_4 rfl (lv_at hl 0 rfl) ?_
  refine lv_iload_n hx hb dX2_held_5 rfl (lv_at hl 1 rfl) ?_
  refine x_callVi (rest := []) B G (c_X2_countAt l DL V h4 h5 n hn) (cwV 1 B.1.2.2.2.2 gX2_held_X2_countAt rfl rfl rfl (by decide +kernel) ⟨Nat.le_of_ble_eq_true rfl, Nat.le_of_ble_eq_true rfl⟩) (d_recv B G Dl) rfl hl.1 rfl (Nat.le_of_ble_eq_true rfl) ⟨Nat.zero_le _, Nat.zero_le _⟩ dX2_held_6 (fun H locs G => ?_)
  exact x_iret B G (rfl) (rfl) dX2_held_9
set_option maxHeartbeats 4000000 in
set_option maxRecDepth 100000 in
theorem c_X2_dropped_ok (l : Launch) {D : va_G} {sh : xS} {ad : Nat → Nat} {cI cZ cO : ClassId} {tys : List (ClassId × FieldType)} {nb : Nat} {od : Nat → Nat} (DL : xDl sh ad cI cZ cO tys nb od) (V : xV) (h4 : V 4 2 = nI nb) (h5 : V 5 2 = nI nb) (n : Nat) (hn : n < 8) : xMi l yX2_dropped wsX2_dropped (rmK 4) D sh ad tys V [.ref (ad 0), .int (nI n)] (V 2 n) V := by
  refine xOfi (cc := cX2_dropped) (nL := 2) (ret := some .int) (own := RX2) (by decide) rfl rfl (Nat.le_of_ble_eq_true rfl) DL.2.2.2.2.2.2.1.2.2 ?_
  intro p e s m args below meth c A ls B G hl
  have hx := B.1.1
  have hb := B.1.2.1
  have hin2 : ∀ w ∈ wsX20, w ∈ wsX2_dropped := by decide +kernel
  have hl : lv_has ls 2 [(0, .ref (ad 0)), (1, .int (nI n))] := hl
  obtain ⟨Dl, Pl, L4, L5, Bs, od_lt, Cx, tO, hn40⟩ := id DL
  obtain ⟨a4, s4, -⟩ := id L4
  obtain ⟨a5, s5, -⟩ := id L5
  refine lv_iload_n hx hb dX2_dropped_0 rfl (lv_at hl 1 rfl) ?_
  refine x_callSv (rest := []) B G (c_X2_checkNode_ok l Cx.2.2 V n hn) (va_cwS 1 B.1.2.2.2.2 gX2_dropped_X2_checkNode rfl rfl rfl (by decide +kernel) ⟨Nat.le_of_ble_eq_true rfl, Nat.le_of_ble_eq_true rfl⟩) rfl hl.1 rfl (Nat.le_of_ble_eq_true rfl) ⟨Nat.zero_le _, Nat.zero_le _⟩ dX2_dropped_1 (fun H locs G => ?_)
  refine lv_aload_n hx hb dX2_dropped_4 rfl (lv_at hl 0 rfl) ?_
  refine d_getA B G Dl hin2 2 (by decide) (by decide +kernel) dX2_dropped_5 ?_
  refine lv_iload_n hx hb dX2_dropped_8 rfl (lv_at hl 1 rfl) ?_
  refine x_ald B G (2) Dl.2.2.1 0 Cx.1 n (show n < 8 from by omega) rfl (by decide) dX2_dropped_9 ?_
  exact x_iret B G (rfl) (rfl) dX2_dropped_10
set_option maxHeartbeats 4000000 in
set_option maxRecDepth 100000 in
theorem c_X2_refused_ok (l : Launch) {D : va_G} {sh : xS} {ad : Nat → Nat} {cI cZ cO : ClassId} {tys : List (ClassId × FieldType)} {nb : Nat} {od : Nat → Nat} (DL : xDl sh ad cI cZ cO tys nb od) (V : xV) (h4 : V 4 2 = nI nb) (h5 : V 5 2 = nI nb) (n : Nat) (hn : n < 8) : xMi l yX2_refused wsX2_refused (rmK 4) D sh ad tys V [.ref (ad 0), .int (nI n)] (V 3 n) V := by
  refine xOfi (cc := cX2_refused) (nL := 2) (ret := some .int) (own := RX2) (by decide) rfl rfl (Nat.le_of_ble_eq_true rfl) DL.2.2.2.2.2.2.1.2.2 ?_
  intro p e s m args below meth c A ls B G hl
  have hx := B.1.1
  have hb := B.1.2.1
  have hin2 : ∀ w ∈ wsX20, w ∈ wsX2_refused := by decide +kernel
  have hl : lv_has ls 2 [(0, .ref (ad 0)), (1, .int (nI n))] := hl
  obtain ⟨Dl, Pl, L4, L5, Bs, od_lt, Cx, tO, hn40⟩ := id DL
  obtain ⟨a4, s4, -⟩ := id L4
  obtain ⟨a5, s5, -⟩ := id L5
  refine lv_iload_n hx hb dX2_refused_0 rfl (lv_at hl 1 rfl) ?_
  refine x_callSv (rest := []) B G (c_X2_checkNode_ok l Cx.2.2 V n hn) (va_cwS 1 B.1.2.2.2.2 gX2_refused_X2_checkNode rfl rfl rfl (by decide +kernel) ⟨Nat.le_of_ble_eq_true rfl, Nat.le_of_ble_eq_true rfl⟩) rfl hl.1 rfl (Nat.le_of_ble_eq_true rfl) ⟨Nat.zero_le _, Nat.zero_le _⟩ dX2_refused_1 (fun H locs G => ?_)
  refine lv_aload_n hx hb dX2_refused_4 rfl (lv_at hl 0 rfl) ?_
  refine d_getA B G Dl hin2 3 (by decide) (by decide +kernel) dX2_refused_5 ?_
  refine lv_iload_n hx hb dX2_refused_8 rfl (lv_at hl 1 rfl) ?_
  refine x_ald B G (3) Dl.2.2.2 0 Cx.1 n (show n < 8 from by omega) rfl (by decide) dX2_refused_9 ?_
  exact x_iret B G (rfl) (rfl) dX2_refused_10
set_option maxHeartbeats 4000000 in
set_option maxRecDepth 100000 in
theorem c_X2_arrival_ok (l : Launch) {D : va_G} {sh : xS} {ad : Nat → Nat} {cI cZ cO : ClassId} {tys : List (ClassId × FieldType)} {nb : Nat} {od : Nat → Nat} (DL : xDl sh ad cI cZ cO tys nb od) (V : xV) (h4 : V 4 2 = nI nb) (h5 : V 5 2 = nI nb) (n d nc : Nat) (hn : n < 8) (hd : d < 8) (hnc : V 6 6 = nI nc) (hc30 : nc ≤ 30) (hpl : cPl V nc) : xMi l yX2_arrival wsX2_arrival (rmK 4) D sh ad tys V [.ref (ad 0), .int (nI n), .int (nI d)] (if pFin V n d nc (V 0 0) 13 d = NEV then -1 else pFin V n d nc (V 0 0) 13 d) (pFin V n d nc (V 0 0)) := by
  refine xOfi (cc := cX2_arrival) (nL := 3) (ret := some .int) (own := RX2) (by decide) rfl rfl (Nat.le_of_ble_eq_true rfl) DL.2.2.2.2.2.2.1.2.2 ?_
  intro p e s m args below meth c A ls B G hl
  have hx := B.1.1
  have hb := B.1.2.1
  have hin1 : ∀ w ∈ wsX10, w ∈ wsX2_arrival := by decide +kernel
  have hin2 : ∀ w ∈ wsX20, w ∈ wsX2_arrival := by decide +kernel
  have hl : lv_has ls 3 [(0, .ref (ad 0)), (1, .int (nI n)), (2, .int (nI d))] := hl
  obtain ⟨Dl, Pl, L4, L5, Bs, od_lt, Cx, tO, hn40⟩ := id DL
  obtain ⟨a4, s4, -⟩ := id L4
  obtain ⟨a5, s5, -⟩ := id L5
  refine lv_iload_n hx hb dX2_arrival_0 rfl (lv_at hl 1 rfl) ?_
  refine x_callSv (rest := []) B G (c_X2_checkNode_ok l Cx.2.2 V n hn) (va_cwS 1 B.1.2.2.2.2 gX2_arrival_X2_checkNode rfl rfl rfl (by decide +kernel) ⟨Nat.le_of_ble_eq_true rfl, Nat.le_of_ble_eq_true rfl⟩) rfl hl.1 rfl (Nat.le_of_ble_eq_true rfl) ⟨Nat.zero_le _, Nat.zero_le _⟩ dX2_arrival_1 (fun H locs G => ?_)
  refine lv_iload_n hx hb dX2_arrival_4 rfl (lv_at hl 2 rfl) ?_
  refine x_callSv (rest := []) B G (c_X2_checkNode_ok l Cx.2.2 V d hd) (va_cwS 1 B.1.2.2.2.2 gX2_arrival_X2_checkNode rfl rfl rfl (by decide +kernel) ⟨Nat.le_of_ble_eq_true rfl, Nat.le_of_ble_eq_true rfl⟩) rfl hl.1 rfl (Nat.le_of_ble_eq_true rfl) ⟨Nat.zero_le _, Nat.zero_le _⟩ dX2_arrival_5 (fun H locs G => ?_)
  refine lv_aload_n hx hb dX2_arrival_8 rfl (lv_at hl 0 rfl) ?_
  refine d_getA B G Dl hin2 6 (by decide) (by decide +kernel) dX2_arrival_9 ?_
  refine lv_iload_n hx hb dX2_arrival_12 rfl (lv_at hl 1 rfl) ?_
  refine lv_iload_n hx hb dX2_arrival_13 rfl (lv_at hl 2 rfl) ?_
  refine lv_aload_n hx hb dX2_arrival_14 rfl (lv_at hl 0 rfl) ?_
  refine d_getI B G Dl hin2 (by decide +kernel) dX2_arrival_15 ?_
  refine x_callVi (rest := []) B G (c_X1_arrivalByNodes l Cx V Pl n d nc (V 0 0) (by omega) (by omega) hnc hc30 hpl) (cwV 3 B.1.2.2.2.2 gX2_arrival_X1_arrivalByNodes rfl rfl rfl (by decide +kernel) ⟨Nat.le_of_ble_eq_true rfl, Nat.le_of_ble_eq_true rfl⟩) (p_recv B G Pl) rfl hl.1 rfl (Nat.le_of_ble_eq_true rfl) ⟨Nat.zero_le _, Nat.zero_le _⟩ dX2_arrival_18 (fun H locs G => ?_)
  refine x_callSi (rest := []) B G (c_X2_secondOrNone l Cx.2.2 (pFin V n d nc (V 0 0)) (pFin V n d nc (V 0 0) 13 d)) (va_cwS 1 B.1.2.2.2.2 gX2_arrival_X2_secondOrNone rfl rfl rfl (by decide +kernel) ⟨Nat.le_of_ble_eq_true rfl, Nat.le_of_ble_eq_true rfl⟩) rfl hl.1 rfl (Nat.le_of_ble_eq_true rfl) ⟨Nat.zero_le _, Nat.zero_le _⟩ dX2_arrival_21 (fun H locs G => ?_)
  exact x_iret B G (rfl) (rfl) dX2_arrival_24
set_option maxHeartbeats 4000000 in
set_option maxRecDepth 100000 in
theorem c_X2_arrivalByRounds_ok (l : Launch) {D : va_G} {sh : xS} {ad : Nat → Nat} {cI cZ cO : ClassId} {tys : List (ClassId × FieldType)} {nb : Nat} {od : Nat → Nat} (DL : xDl sh ad cI cZ cO tys nb od) (V : xV) (h4 : V 4 2 = nI nb) (h5 : V 5 2 = nI nb) (n d nc : Nat) (hn : n < 8) (hd : d < 8) (hnc : V 6 6 = nI nc) (hc30 : nc ≤ 30) (hpl : cPl V nc) : xMi l yX2_arrivalByRounds wsX2_arrivalByRounds (rmK 4) D sh ad tys V [.ref (ad 0), .int (nI n), .int (nI d)] (if pAll V n nc (V 0 0) 13 d = NEV then -1 else pAll V n nc (V 0 0) 13 d) (pAll V n nc (V 0 0)) := by
  refine xOfi (cc := cX2_arrivalByRounds) (nL := 3) (ret := some .int) (own := RX2) (by decide) rfl rfl (Nat.le_of_ble_eq_true rfl) DL.2.2.2.2.2.2.1.2.2 ?_
  intro p e s m args below meth c A ls B G hl
  have hx := B.1.1
  have hb := B.1.2.1
  have hin1 : ∀ w ∈ wsX10, w ∈ wsX2_arrivalByRounds := by decide +kernel
  have hin2 : ∀ w ∈ wsX20, w ∈ wsX2_arrivalByRounds := by decide +kernel
  have hl : lv_has ls 3 [(0, .ref (ad 0)), (1, .int (nI n)), (2, .int (nI d))] := hl
  obtain ⟨Dl, Pl, L4, L5, Bs, od_lt, Cx, tO, hn40⟩ := id DL
  obtain ⟨a4, s4, -⟩ := id L4
  obtain ⟨a5, s5, -⟩ := id L5
  refine lv_iload_n hx hb dX2_arrivalByRounds_0 rfl (lv_at hl 1 rfl) ?_
  refine x_callSv (rest := []) B G (c_X2_checkNode_ok l Cx.2.2 V n hn) (va_cwS 1 B.1.2.2.2.2 gX2_arrivalByRounds_X2_checkNode rfl rfl rfl (by decide +kernel) ⟨Nat.le_of_ble_eq_true rfl, Nat.le_of_ble_eq_true rfl⟩) rfl hl.1 rfl (Nat.le_of_ble_eq_true rfl) ⟨Nat.zero_le _, Nat.zero_le _⟩ dX2_arrivalByRounds_1 (fun H locs G => ?_)
  refine lv_iload_n hx hb dX2_arrivalByRounds_4 rfl (lv_at hl 2 rfl) ?_
  refine x_callSv (rest := []) B G (c_X2_checkNode_ok l Cx.2.2 V d hd) (va_cwS 1 B.1.2.2.2.2 gX2_arrivalByRounds_X2_checkNode rfl rfl rfl (by decide +kernel) ⟨Nat.le_of_ble_eq_true rfl, Nat.le_of_ble_eq_true rfl⟩) rfl hl.1 rfl (Nat.le_of_ble_eq_true rfl) ⟨Nat.zero_le _, Nat.zero_le _⟩ dX2_arrivalByRounds_5 (fun H locs G => ?_)
  refine lv_aload_n hx hb dX2_arrivalByRounds_8 rfl (lv_at hl 0 rfl) ?_
  refine d_getA B G Dl hin2 6 (by decide) (by decide +kernel) dX2_arrivalByRounds_9 ?_
  refine lv_iload_n hx hb dX2_arrivalByRounds_12 rfl (lv_at hl 1 rfl) ?_
  refine lv_iload_n hx hb dX2_arrivalByRounds_13 rfl (lv_at hl 2 rfl) ?_
  refine lv_aload_n hx hb dX2_arrivalByRounds_14 rfl (lv_at hl 0 rfl) ?_
  refine d_getI B G Dl hin2 (by decide +kernel) dX2_arrivalByRounds_15 ?_
  refine x_callVi (rest := []) B G (c_X1_arrivalByContacts l Cx V Pl n d nc (V 0 0) (by omega) (by omega) hnc hc30 hpl) (cwV 3 B.1.2.2.2.2 gX2_arrivalByRounds_X1_arrivalByContacts rfl rfl rfl (by decide +kernel) ⟨Nat.le_of_ble_eq_true rfl, Nat.le_of_ble_eq_true rfl⟩) (p_recv B G Pl) rfl hl.1 rfl (Nat.le_of_ble_eq_true rfl) ⟨Nat.zero_le _, Nat.zero_le _⟩ dX2_arrivalByRounds_18 (fun H locs G => ?_)
  refine x_callSi (rest := []) B G (c_X2_secondOrNone l Cx.2.2 (pAll V n nc (V 0 0)) (pAll V n nc (V 0 0) 13 d)) (va_cwS 1 B.1.2.2.2.2 gX2_arrivalByRounds_X2_secondOrNone rfl rfl rfl (by decide +kernel) ⟨Nat.le_of_ble_eq_true rfl, Nat.le_of_ble_eq_true rfl⟩) rfl hl.1 rfl (Nat.le_of_ble_eq_true rfl) ⟨Nat.zero_le _, Nat.zero_le _⟩ dX2_arrivalByRounds_21 (fun H locs G => ?_)
  exact x_iret B G (rfl) (rfl) dX2_arrivalByRounds_24
def cBits (V : xV) (b : Nat) : Nat → Int32
  | 0 => 0
  | n + 1 => if 0 < V (b + 1) n then cBits V b n ||| (1 <<< (nI n &&& 31)) else cBits V b n
set_option maxHeartbeats 4000000 in
set_option maxRecDepth 100000 in
theorem c_X2_holders_ok (l : Launch) {D : va_G} {sh : xS} {ad : Nat → Nat} {cI cZ cO : ClassId} {tys : List (ClassId × FieldType)} {nb : Nat} {od : Nat → Nat} (DL : xDl sh ad cI cZ cO tys nb od) (V : xV) (h4 : V 4 2 = nI nb) (h5 : V 5 2 = nI nb) (k : Nat) (hk : k < nb) : xMi l yX2_holders wsX2_holders (rmK 4) D sh ad tys V [.ref (ad 0), .int (nI k)] (cBits V (20 + 4 * k) 8) V := by
  refine xOfi (cc := cX2_holders) (nL := 5) (ret := some .int) (own := RX2) (by decide) rfl rfl (Nat.le_of_ble_eq_true rfl) DL.2.2.2.2.2.2.1.2.2 ?_
  intro p e s m args below meth c A ls B G hl
  have hx := B.1.1
  have hb := B.1.2.1
  have hin0 : ∀ w ∈ wsX00, w ∈ wsX2_holders := by decide +kernel
  have hin2 : ∀ w ∈ wsX20, w ∈ wsX2_holders := by decide +kernel
  have hinL : ∀ w ∈ wsJx4a65c0, w ∈ wsX2_holders := by decide +kernel
  have hl : lv_has ls 5 [(0, .ref (ad 0)), (1, .int (nI k))] := hl
  obtain ⟨Dl, Pl, L4, L5, Bs, od_lt, Cx, tO, hn40⟩ := id DL
  obtain ⟨a4, s4, -⟩ := id L4
  obtain ⟨a5, s5, -⟩ := id L5
  refine lv_aload_n hx hb dX2_holders_0 rfl (lv_at hl 0 rfl) ?_
  refine lv_iload_n hx hb dX2_holders_1 rfl (lv_at hl 1 rfl) ?_
  refine x_callVq (rest := []) B G (c_X2_numbered_ok l DL V h4 h5 k hk) (cwV 1 B.1.2.2.2.2 gX2_holders_X2_numbered rfl rfl rfl (by decide +kernel) ⟨Nat.le_of_ble_eq_true rfl, Nat.le_of_ble_eq_true rfl⟩) (d_recv B G Dl) rfl hl.1 rfl (Nat.le_of_ble_eq_true rfl) ⟨Nat.zero_le _, Nat.zero_le _⟩ dX2_holders_2 (fun H locs G => ?_)
  refine lv_astore_n (lv' := [(2, .ref (ad (20 + 4 * k))), (0, .ref (ad 0)), (1, .int (nI k))]) hx hb dX2_holders_5 rfl hl (by decide) rfl (fun ls hl => ?_)
  refine lv_iconst (v := 0) hx hb dX2_holders_6 (by decide) ?_
  refine lv_istore_n (lv' := [(3, .int 0), (2, .ref (ad (20 + 4 * k))), (0, .ref (ad 0)), (1, .int (nI k))]) hx hb dX2_holders_7 rfl hl (by decide) rfl (fun ls hl => ?_)
  refine lv_iconst (v := 0) hx hb dX2_holders_8 (by decide) ?_
  refine lv_istore (lv' := [(4, .int 0), (3, .int 0), (2, .ref (ad (20 + 4 * k))), (0, .ref (ad 0)), (1, .int (nI k))]) hx hb dX2_holders_9 hl (by decide) rfl (fun ls hl => ?_)
  have loop_11 : ∀ (f i : Nat), i ≤ 8 → 8 < i + f → ∀ (H : Heap) (locs : List Loc) (ls : Array Slot), xG D sh ad A s.heap V H locs → lv_has ls 5 [(0, .ref (ad 0)), (1, .int (nI k)), (2, .ref (ad (20 + 4 * k))), (3, .int (cBits V (20 + 4 * k) i)), (4, .int (nI i))] → W p l e (rmK 4) s m args below meth c H locs 0 0 (xQi below D sh ad tys A args s (cBits V (20 + 4 * k) 8) V) (F0 m 11 ls []) := by
    intro f
    induction f with
    | zero => intro i h1 h2; exact absurd h2 (by omega)
    | succ f ih_11 =>
      intro i hi hf H locs ls G hl
      refine lv_iload hx hb dX2_holders_11 (lv_at hl 4 rfl) ?_
      refine lv_bipush (v := 8) hx hb dX2_holders_13 (by decide) ?_
      refine lv_icmp_ge (tgt := 40) hx hb dX2_holders_15 (by decide) (fun c_15 => ?_) (fun c_15 => ?_)
      · skip
        have c_15 : 8 ≤ i := (nI_leI (a := 8) (b := i) (by omega) (by omega)).mp c_15
        refine lv_iload_n hx hb dX2_holders_40 rfl (lv_at hl 3 rfl) ?_
        exact x_iret B G (by rw [show i = 8 by omega]) (rfl) dX2_holders_41
      · skip
        have c_15 : ¬ (8 ≤ i) := fun h9 => c_15 ((nI_leI (a := 8) (b := i) (by omega) (by omega)).mpr h9)
        refine lv_aload_n hx hb dX2_holders_18 rfl (lv_at hl 2 rfl) ?_
        refine lv_iload hx hb dX2_holders_19 (lv_at hl 4 rfl) ?_
        refine x_callVi (rest := []) B G (c_X0_isAt l Cx V (20 + 4 * k) (Bs k hk) i (by omega)) (cwV 1 B.1.2.2.2.2 gX2_holders_X0_isAt rfl rfl rfl (by decide +kernel) ⟨Nat.le_of_ble_eq_true rfl, Nat.le_of_ble_eq_true rfl⟩) (b_recv B G (Bs k hk)) rfl hl.1 rfl (Nat.le_of_ble_eq_true rfl) ⟨Nat.zero_le _, Nat.zero_le _⟩ dX2_holders_21 (fun H locs G => ?_)
        refine lv_if_eq (tgt := 34) hx hb dX2_holders_24 (by decide) (fun c_24 => ?_) (fun c_24 => ?_)
        · skip
          refine lv_iinc (v := nI (i + 1)) (lv' := [(4, .int (nI (i + 1))), (0, .ref (ad 0)), (1, .int (nI k)), (2, .ref (ad (20 + 4 * k))), (3, .int (cBits V (20 + 4 * k) i))]) hx hb dX2_holders_34 hl (k := 4) rfl (nI_add i 1) (by decide) rfl (fun ls hl => ?_)
          refine lv_goto (tgt := 11) hx hb dX2_holders_37 (by decide) ?_
          have hl := lv_sub (l' := [(0, .ref (ad 0)), (1, .int (nI k)), (2, .ref (ad (20 + 4 * k))), (3, .int (cBits V (20 + 4 * k) i)), (4, .int (nI (i + 1)))]) hl [1, 2, 3, 4, 0] rfl
          have hl := lv_cast hl (congrArg (fun z : Int32 => ([(0, .ref (ad 0)), (1, .int (nI k)), (2, .ref (ad (20 + 4 * k))), (3, .int z), (4, .int (nI (i + 1)))] : List (Nat × Value))) (show (cBits V (20 + 4 * k) i) = (cBits V (20 + 4 * k) (i + 1)) from (if_neg (b2i_0.mp c_24)).symm))
          exact ih_11 (i + 1) (by omega) (by omega) _ _ _ G hl
        · skip
          refine lv_iload_n hx hb dX2_holders_27 rfl (lv_at hl 3 rfl) ?_
          refine lv_iconst (v := 1) hx hb dX2_holders_28 (by decide) ?_
          refine lv_iload hx hb dX2_holders_29 (lv_at hl 4 rfl) ?_
          refine lv_ishl hx hb dX2_holders_31 ?_
          refine lv_ior hx hb dX2_holders_32 ?_
          refine lv_istore_n (lv' := [(3, .int ((cBits V (20 + 4 * k) i) ||| (1 <<< ((nI i) &&& 31)))), (0, .ref (ad 0)), (1, .int (nI k)), (2, .ref (ad (20 + 4 * k))), (4, .int (nI i))]) hx hb dX2_holders_33 rfl hl (by decide) rfl (fun ls hl => ?_)
          refine lv_iinc (v := nI (i + 1)) (lv' := [(4, .int (nI (i + 1))), (3, .int ((cBits V (20 + 4 * k) i) ||| (1 <<< ((nI i) &&& 31)))), (0, .ref (ad 0)), (1, .int (nI k)), (2, .ref (ad (20 + 4 * k)))]) hx hb dX2_holders_34 hl (k := 4) rfl (nI_add i 1) (by decide) rfl (fun ls hl => ?_)
          refine lv_goto (tgt := 11) hx hb dX2_holders_37 (by decide) ?_
          have hl := lv_sub (l' := [(0, .ref (ad 0)), (1, .int (nI k)), (2, .ref (ad (20 + 4 * k))), (3, .int ((cBits V (20 + 4 * k) i) ||| (1 <<< ((nI i) &&& 31)))), (4, .int (nI (i + 1)))]) hl [2, 3, 4, 1, 0] rfl
          have hl := lv_cast hl (congrArg (fun z : Int32 => ([(0, .ref (ad 0)), (1, .int (nI k)), (2, .ref (ad (20 + 4 * k))), (3, .int z), (4, .int (nI (i + 1)))] : List (Nat × Value))) (show ((cBits V (20 + 4 * k) i) ||| (1 <<< ((nI i) &&& 31))) = (cBits V (20 + 4 * k) (i + 1)) from (if_pos (b2i_1 c_24)).symm))
          exact ih_11 (i + 1) (by omega) (by omega) _ _ _ G hl
  have hl := lv_sub (l' := [(0, .ref (ad 0)), (1, .int (nI k)), (2, .ref (ad (20 + 4 * k))), (3, .int 0), (4, .int 0)]) hl [3, 4, 2, 1, 0] rfl
  have hl := lv_cast hl (congrArg (fun z : Int32 => ([(0, .ref (ad 0)), (1, .int (nI k)), (2, .ref (ad (20 + 4 * k))), (3, .int z), (4, .int 0)] : List (Nat × Value))) (show 0 = (cBits V (20 + 4 * k) 0) from rfl))
  have hl := lv_cast hl (congrArg (fun z : Int32 => ([(0, .ref (ad 0)), (1, .int (nI k)), (2, .ref (ad (20 + 4 * k))), (3, .int (cBits V (20 + 4 * k) 0)), (4, .int z)] : List (Nat × Value))) (show 0 = (nI 0) from rfl))
  exact loop_11 (8 + 1) 0 (by omega) (by omega) _ _ _ G hl
def cHasO (V : xV) (od : Nat → Nat) (n i : Nat) : Bool := decide (0 < V (20 + 4 * od i + 1) n)
theorem cntP_mono (P : Nat → Bool) {a b : Nat} (h : a ≤ b) : cntP P a ≤ cntP P b := by
  induction b with
  | zero => rw [show a = 0 by omega]; exact Nat.le_refl _
  | succ b ih =>
    rcases Nat.lt_or_ge a (b + 1) with c | c
    · have z := ih (by omega)
      by_cases q : P b = true
      · rw [cntP_t q]; omega
      · rw [cntP_f q]; exact z
    · rw [show a = b + 1 by omega]; exact Nat.le_refl _
set_option maxHeartbeats 4000000 in
set_option maxRecDepth 100000 in
theorem c_X2_heldAt_ok (l : Launch) {D : va_G} {sh : xS} {ad : Nat → Nat} {cI cZ cO : ClassId} {tys : List (ClassId × FieldType)} {nb : Nat} {od : Nat → Nat} (DL : xDl sh ad cI cZ cO tys nb od) (V : xV) (h4 : V 4 2 = nI nb) (h5 : V 5 2 = nI nb) (n j : Nat) (x : Int32) (hn : n < 8) (hj : j < nb) (hjP : 0 < V (20 + 4 * od j + 1) n) (hjx : nI (cntP (cHasO V od n) j) = x) : xMi l yX2_heldAt wsX2_heldAt (rmK 4) D sh ad tys V [.ref (ad 0), .int (nI n), .int x] (V (20 + 4 * od j) 0) V := by
  refine xOfi (cc := cX2_heldAt) (nL := 6) (ret := some .int) (own := RX2) (by decide) rfl rfl (Nat.le_of_ble_eq_true rfl) DL.2.2.2.2.2.2.1.2.2 ?_
  intro p e s m args below meth c A ls B G hl
  have hx := B.1.1
  have hb := B.1.2.1
  have hin0 : ∀ w ∈ wsX00, w ∈ wsX2_heldAt := by decide +kernel
  have hin2 : ∀ w ∈ wsX20, w ∈ wsX2_heldAt := by decide +kernel
  have hinL : ∀ w ∈ wsJx4a65c0, w ∈ wsX2_heldAt := by decide +kernel
  have hl : lv_has ls 6 [(0, .ref (ad 0)), (1, .int (nI n)), (2, .int x)] := hl
  obtain ⟨Dl, Pl, L4, L5, Bs, od_lt, Cx, tO, hn40⟩ := id DL
  obtain ⟨a4, s4, -⟩ := id L4
  obtain ⟨a5, s5, -⟩ := id L5
  refine lv_iload_n hx hb dX2_heldAt_0 rfl (lv_at hl 1 rfl) ?_
  refine x_callSv (rest := []) B G (c_X2_checkNode_ok l Cx.2.2 V n hn) (va_cwS 1 B.1.2.2.2.2 gX2_heldAt_X2_checkNode rfl rfl rfl (by decide +kernel) ⟨Nat.le_of_ble_eq_true rfl, Nat.le_of_ble_eq_true rfl⟩) rfl hl.1 rfl (Nat.le_of_ble_eq_true rfl) ⟨Nat.zero_le _, Nat.zero_le _⟩ dX2_heldAt_1 (fun H locs G => ?_)
  refine lv_iconst (v := 0) hx hb dX2_heldAt_4 (by decide) ?_
  refine lv_istore_n (lv' := [(3, .int 0), (0, .ref (ad 0)), (1, .int (nI n)), (2, .int x)]) hx hb dX2_heldAt_5 rfl hl (by decide) rfl (fun ls hl => ?_)
  refine lv_iconst (v := 0) hx hb dX2_heldAt_6 (by decide) ?_
  refine lv_istore (lv' := [(4, .int 0), (3, .int 0), (0, .ref (ad 0)), (1, .int (nI n)), (2, .int x)]) hx hb dX2_heldAt_7 hl (by decide) rfl (fun ls hl => ?_)
  have loop_9 : ∀ (f i : Nat), i ≤ nb → nb < i + f → (i ≤ j) → ∀ (H : Heap) (locs : List Loc) (ls : Array Slot), xG D sh ad A s.heap V H locs → lv_has ls 6 [(0, .ref (ad 0)), (1, .int (nI n)), (2, .int x), (3, .int (nI (cntP (cHasO V od n) i))), (4, .int (nI i))] → W p l e (rmK 4) s m args below meth c H locs 0 0 (xQi below D sh ad tys A args s (V (20 + 4 * od j) 0) V) (F0 m 9 ls []) := by
    intro f
    induction f with
    | zero => intro i h1 h2; exact absurd h2 (by omega)
    | succ f ih_9 =>
      intro i hi hf hip H locs ls G hl
      refine lv_iload hx hb dX2_heldAt_9 (lv_at hl 4 rfl) ?_
      refine lv_aload_n hx hb dX2_heldAt_11 rfl (lv_at hl 0 rfl) ?_
      refine d_getA B G Dl hin2 5 (by decide) (by decide +kernel) dX2_heldAt_12 ?_
      refine x_callVi (rest := [.int (nI i)]) B G (c_size l Cx.2.2 V 5 s5) (cwV 0 B.1.2.2.2.2 gX2_heldAt_Jx4a65c_size_8abf5 rfl rfl rfl (by decide +kernel) ⟨Nat.le_of_ble_eq_true rfl, Nat.le_of_ble_eq_true rfl⟩) (l_recv B G 5 s5) rfl hl.1 rfl (Nat.le_of_ble_eq_true rfl) ⟨Nat.zero_le _, Nat.zero_le _⟩ dX2_heldAt_15 (fun H locs G => ?_)
      refine x_top (show _ = nI nb from h5) ?_
      refine lv_icmp_ge (tgt := 64) hx hb dX2_heldAt_18 (by decide) (fun c_18 => ?_) (fun c_18 => ?_)
      · skip
        have c_18 : nb ≤ i := (nI_leI (a := nb) (b := i) (by omega) (by omega)).mp c_18
        exact absurd c_18 (by omega)
      · skip
        have c_18 : ¬ (nb ≤ i) := fun h9 => c_18 ((nI_leI (a := nb) (b := i) (by omega) (by omega)).mpr h9)
        refine lv_aload_n hx hb dX2_heldAt_21 rfl (lv_at hl 0 rfl) ?_
        refine d_getA B G Dl hin2 5 (by decide) (by decide +kernel) dX2_heldAt_22 ?_
        refine lv_iload hx hb dX2_heldAt_25 (lv_at hl 4 rfl) ?_
        refine x_callVq (rest := []) B G (c_get l tO Cx.2.2 V L5 i (by omega) (by omega) h5) (cwV 1 B.1.2.2.2.2 gX2_heldAt_Jx4a65c_get_915e3 rfl rfl rfl (by decide +kernel) ⟨Nat.le_of_ble_eq_true rfl, Nat.le_of_ble_eq_true rfl⟩) (l_recv B G 5 s5) rfl hl.1 rfl (Nat.le_of_ble_eq_true rfl) ⟨Nat.zero_le _, Nat.zero_le _⟩ dX2_heldAt_27 (fun H locs G => ?_)
        refine x_cast B G (20 + 4 * od i) (Bs (od i) (od_lt i (by omega))).1 (q := (RX0, TX0, 11)) rfl (by decide +kernel) dX2_heldAt_30 ?_
        refine lv_astore (lv' := [(5, .ref (ad (20 + 4 * od i))), (0, .ref (ad 0)), (1, .int (nI n)), (2, .int x), (3, .int (nI (cntP (cHasO V od n) i))), (4, .int (nI i))]) hx hb dX2_heldAt_33 hl (by decide) rfl (fun ls hl => ?_)
        refine lv_aload hx hb dX2_heldAt_35 (lv_at hl 0 rfl) ?_
        refine lv_iload_n hx hb dX2_heldAt_37 rfl (lv_at hl 2 rfl) ?_
        refine x_callVi (rest := []) B G (c_X0_isAt l Cx V (20 + 4 * od i) (Bs (od i) (od_lt i (by omega))) n (by omega)) (cwV 1 B.1.2.2.2.2 gX2_heldAt_X0_isAt rfl rfl rfl (by decide +kernel) ⟨Nat.le_of_ble_eq_true rfl, Nat.le_of_ble_eq_true rfl⟩) (b_recv B G (Bs (od i) (od_lt i (by omega)))) rfl hl.1 rfl (Nat.le_of_ble_eq_true rfl) ⟨Nat.zero_le _, Nat.zero_le _⟩ dX2_heldAt_38 (fun H locs G => ?_)
        refine lv_if_eq (tgt := 58) hx hb dX2_heldAt_41 (by decide) (fun c_41 => ?_) (fun c_41 => ?_)
        · skip
          have i_ne : i ≠ j := fun z => b2i_0.mp c_41 (by rw [z]; exact hjP)
          refine lv_iinc (v := nI (i + 1)) (lv' := [(4, .int (nI (i + 1))), (5, .ref (ad (20 + 4 * od i))), (0, .ref (ad 0)), (1, .int (nI n)), (2, .int x), (3, .int (nI (cntP (cHasO V od n) i)))]) hx hb dX2_heldAt_58 hl (k := 5) rfl (nI_add i 1) (by decide) rfl (fun ls hl => ?_)
          refine lv_goto (tgt := 9) hx hb dX2_heldAt_61 (by decide) ?_
          have hl := lv_sub (l' := [(0, .ref (ad 0)), (1, .int (nI n)), (2, .int x), (3, .int (nI (cntP (cHasO V od n) i))), (4, .int (nI (i + 1)))]) hl [2, 3, 4, 5, 0] rfl
          have hl := lv_cast hl (congrArg (fun z : Int32 => ([(0, .ref (ad 0)), (1, .int (nI n)), (2, .int x), (3, .int z), (4, .int (nI (i + 1)))] : List (Nat × Value))) (show (nI (cntP (cHasO V od n) i)) = (nI (cntP (cHasO V od n) (i + 1))) from congrArg nI (cntP_f (P := cHasO V od n) (fun z => b2i_0.mp c_41 (of_decide_eq_true z))).symm))
          exact ih_9 (i + 1) (by omega) (by omega) (by omega) _ _ _ G hl
        · skip
          refine lv_iload_n hx hb dX2_heldAt_44 rfl (lv_at hl 4 rfl) ?_
          refine lv_iload_n hx hb dX2_heldAt_45 rfl (lv_at hl 3 rfl) ?_
          refine lv_icmp_ne (tgt := 55) hx hb dX2_heldAt_46 (by decide) (fun c_46 => ?_) (fun c_46 => ?_)
          · skip
            have i_ne : i ≠ j := fun z => c_46 (by rw [z]; exact hjx)
            refine lv_iinc (v := nI (cntP (cHasO V od n) i + 1)) (lv' := [(3, .int (nI (cntP (cHasO V od n) i + 1))), (5, .ref (ad (20 + 4 * od i))), (0, .ref (ad 0)), (1, .int (nI n)), (2, .int x), (4, .int (nI i))]) hx hb dX2_heldAt_55 hl (k := 4) rfl (nI_add (cntP (cHasO V od n) i) 1) (by decide) rfl (fun ls hl => ?_)
            refine lv_iinc (v := nI (i + 1)) (lv' := [(4, .int (nI (i + 1))), (3, .int (nI (cntP (cHasO V od n) i + 1))), (5, .ref (ad (20 + 4 * od i))), (0, .ref (ad 0)), (1, .int (nI n)), (2, .int x)]) hx hb dX2_heldAt_58 hl (k := 5) rfl (nI_add i 1) (by decide) rfl (fun ls hl => ?_)
            refine lv_goto (tgt := 9) hx hb dX2_heldAt_61 (by decide) ?_
            have hl := lv_sub (l' := [(0, .ref (ad 0)), (1, .int (nI n)), (2, .int x), (3, .int (nI (cntP (cHasO V od n) i + 1))), (4, .int (nI (i + 1)))]) hl [3, 4, 5, 1, 0] rfl
            have hl := lv_cast hl (congrArg (fun z : Int32 => ([(0, .ref (ad 0)), (1, .int (nI n)), (2, .int x), (3, .int z), (4, .int (nI (i + 1)))] : List (Nat × Value))) (show (nI (cntP (cHasO V od n) i + 1)) = (nI (cntP (cHasO V od n) (i + 1))) from congrArg nI (cntP_t (P := cHasO V od n) (decide_eq_true (b2i_1 c_41))).symm))
            exact ih_9 (i + 1) (by omega) (by omega) (by omega) _ _ _ G hl
          · skip
            refine lv_aload hx hb dX2_heldAt_49 (lv_at hl 0 rfl) ?_
            refine b_getI B G (Bs (od i) (od_lt i (by omega))) hin0 0 (by decide) (by decide +kernel) dX2_heldAt_51 ?_
            have i_eq : i = j := by
              rcases Nat.lt_or_ge i j with c | c
              · have z := cntP_mono (cHasO V od n) (show i + 1 ≤ j from c)
                rw [cntP_t (P := cHasO V od n) (decide_eq_true (b2i_1 c_41))] at z
                have y := (nI_eq (a := cntP (cHasO V od n) i) (b := cntP (cHasO V od n) j) (by have := cntP_le (cHasO V od n) i; omega) (by have := cntP_le (cHasO V od n) j; omega)).mp (c_46.trans hjx.symm)
                omega
              · omega
            exact x_iret B G (by rw [i_eq]) (rfl) dX2_heldAt_54
  have hl := lv_sub (l' := [(0, .ref (ad 0)), (1, .int (nI n)), (2, .int x), (3, .int 0), (4, .int 0)]) hl [2, 3, 4, 1, 0] rfl
  have hl := lv_cast hl (congrArg (fun z : Int32 => ([(0, .ref (ad 0)), (1, .int (nI n)), (2, .int x), (3, .int z), (4, .int 0)] : List (Nat × Value))) (show 0 = (nI (cntP (cHasO V od n) 0)) from rfl))
  have hl := lv_cast hl (congrArg (fun z : Int32 => ([(0, .ref (ad 0)), (1, .int (nI n)), (2, .int x), (3, .int (nI (cntP (cHasO V od n) 0))), (4, .int z)] : List (Nat × Value))) (show 0 = (nI 0) from rfl))
  exact loop_9 (nb + 1) 0 (by omega) (by omega) (Nat.zero_le _) _ _ _ G hl
def cPr (V : xV) (b d nc : Nat) : Nat → Int32 × xV
  | 0 => (NEV, V)
  | i + 1 => if 0 < (cPr V b d nc i).2 (b + 1) i then
      (if pFin (cPr V b d nc i).2 i d nc (V 0 0) 13 d < (cPr V b d nc i).1 then pFin (cPr V b d nc i).2 i d nc (V 0 0) 13 d else (cPr V b d nc i).1, pFin (cPr V b d nc i).2 i d nc (V 0 0)) else cPr V b d nc i
theorem cPr_t {V : xV} {b d nc i : Nat} (h : 0 < (cPr V b d nc i).2 (b + 1) i) : cPr V b d nc (i + 1) = (if pFin (cPr V b d nc i).2 i d nc (V 0 0) 13 d < (cPr V b d nc i).1 then pFin (cPr V b d nc i).2 i d nc (V 0 0) 13 d else (cPr V b d nc i).1, pFin (cPr V b d nc i).2 i d nc (V 0 0)) := if_pos h
theorem cPr_f {V : xV} {b d nc i : Nat} (h : ¬ 0 < (cPr V b d nc i).2 (b + 1) i) : cPr V b d nc (i + 1) = cPr V b d nc i := if_neg h
theorem cPr_o (V : xV) (b d nc i : Nat) {j : Nat} (h : j ≠ 13) (h2 : j ≠ 14) : (cPr V b d nc i).2 j = V j := by
  induction i with
  | zero => rfl
  | succ i ih =>
    unfold cPr
    split
    · show pFin _ _ _ _ _ j = _
      rw [pFin_o _ _ _ _ _ h h2, ih]
    · exact ih
set_option maxHeartbeats 4000000 in
set_option maxRecDepth 100000 in
theorem c_X2_promised_ok (l : Launch) {D : va_G} {sh : xS} {ad : Nat → Nat} {cI cZ cO : ClassId} {tys : List (ClassId × FieldType)} {nb : Nat} {od : Nat → Nat} (DL : xDl sh ad cI cZ cO tys nb od) (V : xV) (h4 : V 4 2 = nI nb) (h5 : V 5 2 = nI nb) (k : Nat) (hk : k < nb) (nc : Nat) (hd1 : V (20 + 4 * k) 1 = nI (V (20 + 4 * k) 1).toNatClampNeg) (hd8 : (V (20 + 4 * k) 1).toNatClampNeg < 8) (hnc : V 6 6 = nI nc) (hc30 : nc ≤ 30) (hpl : cPl V nc) : xMi l yX2_promised wsX2_promised (rmK 4) D sh ad tys V [.ref (ad 0), .int (nI k)] (if (cPr V (20 + 4 * k) (V (20 + 4 * k) 1).toNatClampNeg nc 8).1 < V (20 + 4 * k) 3 then (if (cPr V (20 + 4 * k) (V (20 + 4 * k) 1).toNatClampNeg nc 8).1 = NEV then -1 else (cPr V (20 + 4 * k) (V (20 + 4 * k) 1).toNatClampNeg nc 8).1) else -1) ((cPr V (20 + 4 * k) (V (20 + 4 * k) 1).toNatClampNeg nc 8).2) := by
  refine xOfi (cc := cX2_promised) (nL := 5) (ret := some .int) (own := RX2) (by decide) rfl rfl (Nat.le_of_ble_eq_true rfl) DL.2.2.2.2.2.2.1.2.2 ?_
  intro p e s m args below meth c A ls B G hl
  have hx := B.1.1
  have hb := B.1.2.1
  have hin0 : ∀ w ∈ wsX00, w ∈ wsX2_promised := by decide +kernel
  have hin1 : ∀ w ∈ wsX10, w ∈ wsX2_promised := by decide +kernel
  have hin2 : ∀ w ∈ wsX20, w ∈ wsX2_promised := by decide +kernel
  have hinL : ∀ w ∈ wsJx4a65c0, w ∈ wsX2_promised := by decide +kernel
  have hl : lv_has ls 5 [(0, .ref (ad 0)), (1, .int (nI k))] := hl
  obtain ⟨Dl, Pl, L4, L5, Bs, od_lt, Cx, tO, hn40⟩ := id DL
  obtain ⟨a4, s4, -⟩ := id L4
  obtain ⟨a5, s5, -⟩ := id L5
  refine lv_aload_n hx hb dX2_promised_0 rfl (lv_at hl 0 rfl) ?_
  refine lv_iload_n hx hb dX2_promised_1 rfl (lv_at hl 1 rfl) ?_
  refine x_callVq (rest := []) B G (c_X2_numbered_ok l DL V h4 h5 k hk) (cwV 1 B.1.2.2.2.2 gX2_promised_X2_numbered rfl rfl rfl (by decide +kernel) ⟨Nat.le_of_ble_eq_true rfl, Nat.le_of_ble_eq_true rfl⟩) (d_recv B G Dl) rfl hl.1 rfl (Nat.le_of_ble_eq_true rfl) ⟨Nat.zero_le _, Nat.zero_le _⟩ dX2_promised_2 (fun H locs G => ?_)
  refine lv_astore_n (lv' := [(2, .ref (ad (20 + 4 * k))), (0, .ref (ad 0)), (1, .int (nI k))]) hx hb dX2_promised_5 rfl hl (by decide) rfl (fun ls hl => ?_)
  refine lv_ldc (v := 2147483647) hx hb B.1.2.2.2.1 (B.1.2.2.2.2 (Cond.constant RX2 185 (2147483647)) (by decide +kernel)) dX2_promised_6 ?_
  refine lv_istore_n (lv' := [(3, .int 2147483647), (2, .ref (ad (20 + 4 * k))), (0, .ref (ad 0)), (1, .int (nI k))]) hx hb dX2_promised_8 rfl hl (by decide) rfl (fun ls hl => ?_)
  refine lv_iconst (v := 0) hx hb dX2_promised_9 (by decide) ?_
  refine lv_istore (lv' := [(4, .int 0), (3, .int 2147483647), (2, .ref (ad (20 + 4 * k))), (0, .ref (ad 0)), (1, .int (nI k))]) hx hb dX2_promised_10 hl (by decide) rfl (fun ls hl => ?_)
  have loop_12 : ∀ (f i : Nat), i ≤ 8 → 8 < i + f → ∀ (H : Heap) (locs : List Loc) (ls : Array Slot), xG D sh ad A s.heap ((cPr V (20 + 4 * k) (V (20 + 4 * k) 1).toNatClampNeg nc i).2) H locs → lv_has ls 5 [(0, .ref (ad 0)), (1, .int (nI k)), (2, .ref (ad (20 + 4 * k))), (3, .int ((cPr V (20 + 4 * k) (V (20 + 4 * k) 1).toNatClampNeg nc i).1)), (4, .int (nI i))] → W p l e (rmK 4) s m args below meth c H locs 0 0 (xQi below D sh ad tys A args s (if (cPr V (20 + 4 * k) (V (20 + 4 * k) 1).toNatClampNeg nc 8).1 < V (20 + 4 * k) 3 then (if (cPr V (20 + 4 * k) (V (20 + 4 * k) 1).toNatClampNeg nc 8).1 = NEV then -1 else (cPr V (20 + 4 * k) (V (20 + 4 * k) 1).toNatClampNeg nc 8).1) else -1) ((cPr V (20 + 4 * k) (V (20 + 4 * k) 1).toNatClampNeg nc 8).2)) (F0 m 12 ls []) := by
    intro f
    induction f with
    | zero => intro i h1 h2; exact absurd h2 (by omega)
    | succ f ih_12 =>
      intro i hi hf H locs ls G hl
      refine lv_iload hx hb dX2_promised_12 (lv_at hl 4 rfl) ?_
      refine lv_bipush (v := 8) hx hb dX2_promised_14 (by decide) ?_
      refine lv_icmp_ge (tgt := 56) hx hb dX2_promised_16 (by decide) (fun c_16 => ?_) (fun c_16 => ?_)
      · skip
        have c_16 : 8 ≤ i := (nI_leI (a := 8) (b := i) (by omega) (by omega)).mp c_16
        have e_i : i = 8 := by omega
        rw [e_i] at G hl
        refine lv_iload_n hx hb dX2_promised_56 rfl (lv_at hl 3 rfl) ?_
        refine lv_aload_n hx hb dX2_promised_57 rfl (lv_at hl 2 rfl) ?_
        refine b_getI B G (Bs k hk) hin0 3 (by decide) (by decide +kernel) dX2_promised_58 ?_
        refine x_top (show _ = V (20 + 4 * k) 3 from congrFun (cPr_o _ _ _ _ _ (by omega) (by omega)) 3) ?_
        refine lv_icmp_ge (tgt := 71) hx hb dX2_promised_61 (by decide) (fun c_61 => ?_) (fun c_61 => ?_)
        · skip
          refine lv_iconst (v := (-1)) hx hb dX2_promised_71 (by decide) ?_
          exact x_iret B G (by rw [if_neg (i_nlt.mpr c_61)]) (rfl) dX2_promised_72
        · skip
          refine lv_iload_n hx hb dX2_promised_64 rfl (lv_at hl 3 rfl) ?_
          refine x_callSi (rest := []) B G (c_X2_secondOrNone l Cx.2.2 ((cPr V (20 + 4 * k) (V (20 + 4 * k) 1).toNatClampNeg nc 8).2) ((cPr V (20 + 4 * k) (V (20 + 4 * k) 1).toNatClampNeg nc 8).1)) (va_cwS 1 B.1.2.2.2.2 gX2_promised_X2_secondOrNone rfl rfl rfl (by decide +kernel) ⟨Nat.le_of_ble_eq_true rfl, Nat.le_of_ble_eq_true rfl⟩) rfl hl.1 rfl (Nat.le_of_ble_eq_true rfl) ⟨Nat.zero_le _, Nat.zero_le _⟩ dX2_promised_65 (fun H locs G => ?_)
          refine lv_goto (tgt := 72) hx hb dX2_promised_68 (by decide) ?_
          exact x_iret B G (by rw [if_pos (i_nle.mp c_61)]) (rfl) dX2_promised_72
      · skip
        have c_16 : ¬ (8 ≤ i) := fun h9 => c_16 ((nI_leI (a := 8) (b := i) (by omega) (by omega)).mpr h9)
        have o_0 : (cPr V (20 + 4 * k) (V (20 + 4 * k) 1).toNatClampNeg nc i).2 0 = V 0 := cPr_o _ _ _ _ _ (by decide) (by decide)
        have o_6 : (cPr V (20 + 4 * k) (V (20 + 4 * k) 1).toNatClampNeg nc i).2 6 = V 6 := cPr_o _ _ _ _ _ (by decide) (by decide)
        have o_b : (cPr V (20 + 4 * k) (V (20 + 4 * k) 1).toNatClampNeg nc i).2 (20 + 4 * k) = V (20 + 4 * k) := cPr_o _ _ _ _ _ (by omega) (by omega)
        have hncW : (cPr V (20 + 4 * k) (V (20 + 4 * k) 1).toNatClampNeg nc i).2 6 6 = nI nc := by rw [o_6]; exact hnc
        have hplW : cPl (cPr V (20 + 4 * k) (V (20 + 4 * k) 1).toNatClampNeg nc i).2 nc := hpl.eq (cPr_o _ _ _ _ _ (by decide) (by decide)) (cPr_o _ _ _ _ _ (by decide) (by decide))
        refine lv_aload_n hx hb dX2_promised_19 rfl (lv_at hl 2 rfl) ?_
        refine lv_iload hx hb dX2_promised_20 (lv_at hl 4 rfl) ?_
        refine x_callVi (rest := []) B G (c_X0_isAt l Cx ((cPr V (20 + 4 * k) (V (20 + 4 * k) 1).toNatClampNeg nc i).2) (20 + 4 * k) (Bs k hk) i (by omega)) (cwV 1 B.1.2.2.2.2 gX2_promised_X0_isAt rfl rfl rfl (by decide +kernel) ⟨Nat.le_of_ble_eq_true rfl, Nat.le_of_ble_eq_true rfl⟩) (b_recv B G (Bs k hk)) rfl hl.1 rfl (Nat.le_of_ble_eq_true rfl) ⟨Nat.zero_le _, Nat.zero_le _⟩ dX2_promised_22 (fun H locs G => ?_)
        refine lv_if_eq (tgt := 50) hx hb dX2_promised_25 (by decide) (fun c_25 => ?_) (fun c_25 => ?_)
        · skip
          refine lv_iinc (v := nI (i + 1)) (lv' := [(4, .int (nI (i + 1))), (0, .ref (ad 0)), (1, .int (nI k)), (2, .ref (ad (20 + 4 * k))), (3, .int ((cPr V (20 + 4 * k) (V (20 + 4 * k) 1).toNatClampNeg nc i).1))]) hx hb dX2_promised_50 hl (k := 4) rfl (nI_add i 1) (by decide) rfl (fun ls hl => ?_)
          refine lv_goto (tgt := 12) hx hb dX2_promised_53 (by decide) ?_
          have hl := lv_sub (l' := [(0, .ref (ad 0)), (1, .int (nI k)), (2, .ref (ad (20 + 4 * k))), (3, .int ((cPr V (20 + 4 * k) (V (20 + 4 * k) 1).toNatClampNeg nc i).1)), (4, .int (nI (i + 1)))]) hl [1, 2, 3, 4, 0] rfl
          have hl := lv_cast hl (congrArg (fun z : Int32 => ([(0, .ref (ad 0)), (1, .int (nI k)), (2, .ref (ad (20 + 4 * k))), (3, .int z), (4, .int (nI (i + 1)))] : List (Nat × Value))) (show ((cPr V (20 + 4 * k) (V (20 + 4 * k) 1).toNatClampNeg nc i).1) = ((cPr V (20 + 4 * k) (V (20 + 4 * k) 1).toNatClampNeg nc (i + 1)).1) from (congrArg Prod.fst (cPr_f (b2i_0.mp c_25))).symm))
          have eV : (cPr V (20 + 4 * k) (V (20 + 4 * k) 1).toNatClampNeg nc i).2 = (cPr V (20 + 4 * k) (V (20 + 4 * k) 1).toNatClampNeg nc (i + 1)).2 := (congrArg Prod.snd (cPr_f (b2i_0.mp c_25))).symm
          rw [eV] at G
          exact ih_12 (i + 1) (by omega) (by omega) _ _ _ G hl
        · skip
          refine lv_iload_n hx hb dX2_promised_28 rfl (lv_at hl 3 rfl) ?_
          refine lv_aload_n hx hb dX2_promised_29 rfl (lv_at hl 0 rfl) ?_
          refine d_getA B G Dl hin2 6 (by decide) (by decide +kernel) dX2_promised_30 ?_
          refine lv_iload hx hb dX2_promised_33 (lv_at hl 4 rfl) ?_
          refine lv_aload_n hx hb dX2_promised_35 rfl (lv_at hl 2 rfl) ?_
          refine b_getI B G (Bs k hk) hin0 1 (by decide) (by decide +kernel) dX2_promised_36 ?_
          refine x_top (show _ = nI (V (20 + 4 * k) 1).toNatClampNeg from (by rw [o_b]; exact hd1)) ?_
          refine lv_aload_n hx hb dX2_promised_39 rfl (lv_at hl 0 rfl) ?_
          refine d_getI B G Dl hin2 (by decide +kernel) dX2_promised_40 ?_
          refine x_top (show _ = V 0 0 from congrFun o_0 0) ?_
          refine x_callVi (rest := [.int ((cPr V (20 + 4 * k) (V (20 + 4 * k) 1).toNatClampNeg nc i).1)]) B G (c_X1_arrivalByNodes l Cx ((cPr V (20 + 4 * k) (V (20 + 4 * k) 1).toNatClampNeg nc i).2) Pl i ((V (20 + 4 * k) 1).toNatClampNeg) nc (V 0 0) (by omega) (by omega) hncW hc30 hplW) (cwV 3 B.1.2.2.2.2 gX2_promised_X1_arrivalByNodes rfl rfl rfl (by decide +kernel) ⟨Nat.le_of_ble_eq_true rfl, Nat.le_of_ble_eq_true rfl⟩) (p_recv B G Pl) rfl hl.1 rfl (Nat.le_of_ble_eq_true rfl) ⟨Nat.zero_le _, Nat.zero_le _⟩ dX2_promised_43 (fun H locs G => ?_)
          refine x_mmin B hl.1 (by decide +kernel) (by decide +kernel) (by decide +kernel) (by decide +kernel) dX2_promised_46 (Nat.le_of_ble_eq_true rfl) (Nat.le_of_ble_eq_true rfl) ⟨Nat.zero_le _, Nat.zero_le _⟩ ?_
          refine lv_istore_n (lv' := [(3, .int (if pFin ((cPr V (20 + 4 * k) (V (20 + 4 * k) 1).toNatClampNeg nc i).2) i ((V (20 + 4 * k) 1).toNatClampNeg) nc (V 0 0) 13 ((V (20 + 4 * k) 1).toNatClampNeg) < (cPr V (20 + 4 * k) (V (20 + 4 * k) 1).toNatClampNeg nc i).1 then pFin ((cPr V (20 + 4 * k) (V (20 + 4 * k) 1).toNatClampNeg nc i).2) i ((V (20 + 4 * k) 1).toNatClampNeg) nc (V 0 0) 13 ((V (20 + 4 * k) 1).toNatClampNeg) else (cPr V (20 + 4 * k) (V (20 + 4 * k) 1).toNatClampNeg nc i).1)), (0, .ref (ad 0)), (1, .int (nI k)), (2, .ref (ad (20 + 4 * k))), (4, .int (nI i))]) hx hb dX2_promised_49 rfl hl (by decide) rfl (fun ls hl => ?_)
          refine lv_iinc (v := nI (i + 1)) (lv' := [(4, .int (nI (i + 1))), (3, .int (if pFin ((cPr V (20 + 4 * k) (V (20 + 4 * k) 1).toNatClampNeg nc i).2) i ((V (20 + 4 * k) 1).toNatClampNeg) nc (V 0 0) 13 ((V (20 + 4 * k) 1).toNatClampNeg) < (cPr V (20 + 4 * k) (V (20 + 4 * k) 1).toNatClampNeg nc i).1 then pFin ((cPr V (20 + 4 * k) (V (20 + 4 * k) 1).toNatClampNeg nc i).2) i ((V (20 + 4 * k) 1).toNatClampNeg) nc (V 0 0) 13 ((V (20 + 4 * k) 1).toNatClampNeg) else (cPr V (20 + 4 * k) (V (20 + 4 * k) 1).toNatClampNeg nc i).1)), (0, .ref (ad 0)), (1, .int (nI k)), (2, .ref (ad (20 + 4 * k)))]) hx hb dX2_promised_50 hl (k := 4) rfl (nI_add i 1) (by decide) rfl (fun ls hl => ?_)
          refine lv_goto (tgt := 12) hx hb dX2_promised_53 (by decide) ?_
          have hl := lv_sub (l' := [(0, .ref (ad 0)), (1, .int (nI k)), (2, .ref (ad (20 + 4 * k))), (3, .int (if pFin ((cPr V (20 + 4 * k) (V (20 + 4 * k) 1).toNatClampNeg nc i).2) i ((V (20 + 4 * k) 1).toNatClampNeg) nc (V 0 0) 13 ((V (20 + 4 * k) 1).toNatClampNeg) < (cPr V (20 + 4 * k) (V (20 + 4 * k) 1).toNatClampNeg nc i).1 then pFin ((cPr V (20 + 4 * k) (V (20 + 4 * k) 1).toNatClampNeg nc i).2) i ((V (20 + 4 * k) 1).toNatClampNeg) nc (V 0 0) 13 ((V (20 + 4 * k) 1).toNatClampNeg) else (cPr V (20 + 4 * k) (V (20 + 4 * k) 1).toNatClampNeg nc i).1)), (4, .int (nI (i + 1)))]) hl [2, 3, 4, 1, 0] rfl
          have hl := lv_cast hl (congrArg (fun z : Int32 => ([(0, .ref (ad 0)), (1, .int (nI k)), (2, .ref (ad (20 + 4 * k))), (3, .int z), (4, .int (nI (i + 1)))] : List (Nat × Value))) (show (if pFin ((cPr V (20 + 4 * k) (V (20 + 4 * k) 1).toNatClampNeg nc i).2) i ((V (20 + 4 * k) 1).toNatClampNeg) nc (V 0 0) 13 ((V (20 + 4 * k) 1).toNatClampNeg) < (cPr V (20 + 4 * k) (V (20 + 4 * k) 1).toNatClampNeg nc i).1 then pFin ((cPr V (20 + 4 * k) (V (20 + 4 * k) 1).toNatClampNeg nc i).2) i ((V (20 + 4 * k) 1).toNatClampNeg) nc (V 0 0) 13 ((V (20 + 4 * k) 1).toNatClampNeg) else (cPr V (20 + 4 * k) (V (20 + 4 * k) 1).toNatClampNeg nc i).1) = ((cPr V (20 + 4 * k) (V (20 + 4 * k) 1).toNatClampNeg nc (i + 1)).1) from (congrArg Prod.fst (cPr_t (b2i_1 c_25))).symm))
          have eV : pFin ((cPr V (20 + 4 * k) (V (20 + 4 * k) 1).toNatClampNeg nc i).2) i ((V (20 + 4 * k) 1).toNatClampNeg) nc (V 0 0) = (cPr V (20 + 4 * k) (V (20 + 4 * k) 1).toNatClampNeg nc (i + 1)).2 := (congrArg Prod.snd (cPr_t (b2i_1 c_25))).symm
          rw [eV] at G
          exact ih_12 (i + 1) (by omega) (by omega) _ _ _ G hl
  have hl := lv_sub (l' := [(0, .ref (ad 0)), (1, .int (nI k)), (2, .ref (ad (20 + 4 * k))), (3, .int 2147483647), (4, .int 0)]) hl [3, 4, 2, 1, 0] rfl
  have hl := lv_cast hl (congrArg (fun z : Int32 => ([(0, .ref (ad 0)), (1, .int (nI k)), (2, .ref (ad (20 + 4 * k))), (3, .int z), (4, .int 0)] : List (Nat × Value))) (show 2147483647 = ((cPr V (20 + 4 * k) (V (20 + 4 * k) 1).toNatClampNeg nc 0).1) from rfl))
  have hl := lv_cast hl (congrArg (fun z : Int32 => ([(0, .ref (ad 0)), (1, .int (nI k)), (2, .ref (ad (20 + 4 * k))), (3, .int ((cPr V (20 + 4 * k) (V (20 + 4 * k) 1).toNatClampNeg nc 0).1)), (4, .int z)] : List (Nat × Value))) (show 0 = (nI 0) from rfl))
  have eV : V = (cPr V (20 + 4 * k) (V (20 + 4 * k) 1).toNatClampNeg nc 0).2 := rfl
  rw [eV] at G
  exact loop_12 (8 + 1) 0 (by omega) (by omega) _ _ _ G hl
def cOver (V : xV) (t0 t1 : Int32) (k : Nat) : Bool := decide (¬ V (20 + 4 * k) 3 ≤ t0) && decide (¬ t1 < V (20 + 4 * k) 3)
def cGone (V : xV) (t0 t1 : Int32) (k : Nat) : Bool := cOver V t0 t1 k && decide (V (20 + 4 * k) 8 = -1)
def cPass (V : xV) (t0 t1 : Int32) : Nat → xV
  | 0 => V
  | k + 1 => if cOver V t0 t1 k = true then bGone (cPass V t0 t1 k) (20 + 4 * k) else cPass V t0 t1 k
theorem cPass_o (V : xV) (t0 t1 : Int32) (k : Nat) {i : Nat} (h : i < 20) : cPass V t0 t1 k i = V i := by
  induction k with
  | zero => rfl
  | succ k ih =>
    unfold cPass
    split
    · rw [bGone_o _ _ (by omega) (by omega) (by omega), ih]
    · exact ih
theorem cPass_f (V : xV) (t0 t1 : Int32) (k j : Nat) {i : Nat} (h : i ≠ 7) : cPass V t0 t1 k (20 + 4 * j) i = V (20 + 4 * j) i := by
  induction k with
  | zero => rfl
  | succ k ih =>
    unfold cPass
    split
    · by_cases e : j = k
      · rw [← e] at ih; rw [← e, bGone_f _ _ h, ih]
      · rw [bGone_o _ _ (by omega) (by omega) (by omega), ih]
    · exact ih
set_option maxHeartbeats 4000000 in
set_option maxRecDepth 100000 in
theorem c_X2_pass_ok (l : Launch) {D : va_G} {sh : xS} {ad : Nat → Nat} {cI cZ cO : ClassId} {tys : List (ClassId × FieldType)} {nb : Nat} {od : Nat → Nat} (DL : xDl sh ad cI cZ cO tys nb od) (V : xV) (h4 : V 4 2 = nI nb) (h5 : V 5 2 = nI nb) (x : Int32) (h : 1 ≤ x ∧ x ≤ 10000) : xMi l yX2_pass wsX2_pass (rmK 4) D sh ad tys V [.ref (ad 0), .int x] (nI (cntP (cGone (xu V 0 0 (V 0 0 + x)) (V 0 0) (V 0 0 + x)) nb)) (cPass (xu V 0 0 (V 0 0 + x)) (V 0 0) (V 0 0 + x) nb) := by
  refine xOfi (cc := cX2_pass) (nL := 6) (ret := some .int) (own := RX2) (by decide) rfl rfl (Nat.le_of_ble_eq_true rfl) DL.2.2.2.2.2.2.1.2.2 ?_
  intro p e s m args below meth c A ls B G hl
  have hx := B.1.1
  have hb := B.1.2.1
  have hin0 : ∀ w ∈ wsX00, w ∈ wsX2_pass := by decide +kernel
  have hin2 : ∀ w ∈ wsX20, w ∈ wsX2_pass := by decide +kernel
  have hinL : ∀ w ∈ wsJx4a65c0, w ∈ wsX2_pass := by decide +kernel
  have hl : lv_has ls 6 [(0, .ref (ad 0)), (1, .int x)] := hl
  obtain ⟨Dl, Pl, L4, L5, Bs, od_lt, Cx, tO, hn40⟩ := id DL
  obtain ⟨a4, s4, -⟩ := id L4
  obtain ⟨a5, s5, -⟩ := id L5
  refine lv_iload_n hx hb dX2_pass_0 rfl (lv_at hl 1 rfl) ?_
  refine lv_iconst (v := 1) hx hb dX2_pass_1 (by decide) ?_
  refine lv_sipush (v := 10000) hx hb dX2_pass_2 (by decide) ?_
  refine x_callSi (rest := []) B G (c_X2_isWithin l Cx.2.2 V x 1 10000) (va_cwS 3 B.1.2.2.2.2 gX2_pass_X2_isWithin rfl rfl rfl (by decide +kernel) ⟨Nat.le_of_ble_eq_true rfl, Nat.le_of_ble_eq_true rfl⟩) rfl hl.1 rfl (Nat.le_of_ble_eq_true rfl) ⟨Nat.zero_le _, Nat.zero_le _⟩ dX2_pass_5 (fun H locs G => ?_)
  refine lv_if_ne (tgt := 21) hx hb dX2_pass_8 (by decide) (fun c_8 => ?_) (fun c_8 => ?_)
  · skip
    refine lv_aload_n hx hb dX2_pass_21 rfl (lv_at hl 0 rfl) ?_
    refine d_getI B G Dl hin2 (by decide +kernel) dX2_pass_22 ?_
    refine lv_istore_n (lv' := [(2, .int (V 0 0)), (0, .ref (ad 0)), (1, .int x)]) hx hb dX2_pass_25 rfl hl (by decide) rfl (fun ls hl => ?_)
    refine lv_aload_n hx hb dX2_pass_26 rfl (lv_at hl 1 rfl) ?_
    refine lv_dup hx hb dX2_pass_27 rfl ?_
    refine d_getI B G Dl hin2 (by decide +kernel) dX2_pass_28 ?_
    refine x_top (show _ = V 0 0 from rfl) ?_
    refine lv_iload_n hx hb dX2_pass_31 rfl (lv_at hl 2 rfl) ?_
    refine lv_iadd hx hb dX2_pass_32 ?_
    refine d_putI B G Dl hin2 (by decide +kernel) dX2_pass_33 (fun H locs G => ?_)
    refine lv_iconst (v := 0) hx hb dX2_pass_36 (by decide) ?_
    refine lv_istore_n (lv' := [(3, .int 0), (2, .int (V 0 0)), (0, .ref (ad 0)), (1, .int x)]) hx hb dX2_pass_37 rfl hl (by decide) rfl (fun ls hl => ?_)
    refine lv_iconst (v := 0) hx hb dX2_pass_38 (by decide) ?_
    refine lv_istore (lv' := [(4, .int 0), (3, .int 0), (2, .int (V 0 0)), (0, .ref (ad 0)), (1, .int x)]) hx hb dX2_pass_39 hl (by decide) rfl (fun ls hl => ?_)
    have loop_41 : ∀ (f i : Nat), i ≤ nb → nb < i + f → ∀ (H : Heap) (locs : List Loc) (ls : Array Slot), xG D sh ad A s.heap (cPass (xu V 0 0 (V 0 0 + x)) (V 0 0) (V 0 0 + x) i) H locs → lv_has ls 6 [(0, .ref (ad 0)), (1, .int x), (2, .int (V 0 0)), (3, .int (nI (cntP (cGone (xu V 0 0 (V 0 0 + x)) (V 0 0) (V 0 0 + x)) i))), (4, .int (nI i))] → W p l e (rmK 4) s m args below meth c H locs 0 0 (xQi below D sh ad tys A args s (nI (cntP (cGone (xu V 0 0 (V 0 0 + x)) (V 0 0) (V 0 0 + x)) nb)) (cPass (xu V 0 0 (V 0 0 + x)) (V 0 0) (V 0 0 + x) nb)) (F0 m 41 ls []) := by
      intro f
      induction f with
      | zero => intro i h1 h2; exact absurd h2 (by omega)
      | succ f ih_41 =>
        intro i hi hf H locs ls G hl
        refine lv_iload hx hb dX2_pass_41 (lv_at hl 4 rfl) ?_
        refine lv_aload_n hx hb dX2_pass_43 rfl (lv_at hl 0 rfl) ?_
        refine d_getA B G Dl hin2 4 (by decide) (by decide +kernel) dX2_pass_44 ?_
        refine x_callVi (rest := [.int (nI i)]) B G (c_size l Cx.2.2 (cPass (xu V 0 0 (V 0 0 + x)) (V 0 0) (V 0 0 + x) i) 4 s4) (cwV 0 B.1.2.2.2.2 gX2_pass_Jx4a65c_size_8abf5 rfl rfl rfl (by decide +kernel) ⟨Nat.le_of_ble_eq_true rfl, Nat.le_of_ble_eq_true rfl⟩) (l_recv B G 4 s4) rfl hl.1 rfl (Nat.le_of_ble_eq_true rfl) ⟨Nat.zero_le _, Nat.zero_le _⟩ dX2_pass_47 (fun H locs G => ?_)
        refine x_top (show _ = nI nb from (by rw [cPass_o _ _ _ _ (by decide)]; exact h4)) ?_
        refine lv_icmp_ge (tgt := 111) hx hb dX2_pass_50 (by decide) (fun c_50 => ?_) (fun c_50 => ?_)
        · skip
          have c_50 : nb ≤ i := (nI_leI (a := nb) (b := i) (by omega) (by omega)).mp c_50
          refine lv_iload_n hx hb dX2_pass_111 rfl (lv_at hl 3 rfl) ?_
          exact x_iret B G (by rw [show i = nb by omega]) (by rw [show i = nb by omega]) dX2_pass_112
        · skip
          have c_50 : ¬ (nb ≤ i) := fun h9 => c_50 ((nI_leI (a := nb) (b := i) (by omega) (by omega)).mpr h9)
          refine lv_aload_n hx hb dX2_pass_53 rfl (lv_at hl 0 rfl) ?_
          refine d_getA B G Dl hin2 4 (by decide) (by decide +kernel) dX2_pass_54 ?_
          refine lv_iload hx hb dX2_pass_57 (lv_at hl 4 rfl) ?_
          refine x_callVq (rest := []) B G (c_get l tO Cx.2.2 (cPass (xu V 0 0 (V 0 0 + x)) (V 0 0) (V 0 0 + x) i) L4 i (by omega) (by omega) (by rw [cPass_o _ _ _ _ (by decide)]; exact h4)) (cwV 1 B.1.2.2.2.2 gX2_pass_Jx4a65c_get_915e3 rfl rfl rfl (by decide +kernel) ⟨Nat.le_of_ble_eq_true rfl, Nat.le_of_ble_eq_true rfl⟩) (l_recv B G 4 s4) rfl hl.1 rfl (Nat.le_of_ble_eq_true rfl) ⟨Nat.zero_le _, Nat.zero_le _⟩ dX2_pass_59 (fun H locs G => ?_)
          refine x_cast B G (20 + 4 * i) (Bs i (by omega)).1 (q := (RX0, TX0, 11)) rfl (by decide +kernel) dX2_pass_62 ?_
          refine lv_astore (lv' := [(5, .ref (ad (20 + 4 * i))), (0, .ref (ad 0)), (1, .int x), (2, .int (V 0 0)), (3, .int (nI (cntP (cGone (xu V 0 0 (V 0 0 + x)) (V 0 0) (V 0 0 + x)) i))), (4, .int (nI i))]) hx hb dX2_pass_65 hl (by decide) rfl (fun ls hl => ?_)
          refine lv_aload hx hb dX2_pass_67 (lv_at hl 0 rfl) ?_
          refine b_getI B G (Bs i (by omega)) hin0 3 (by decide) (by decide +kernel) dX2_pass_69 ?_
          refine x_top (show _ = (xu V 0 0 (V 0 0 + x)) (20 + 4 * i) 3 from cPass_f _ _ _ _ _ (by decide)) ?_
          refine lv_iload_n hx hb dX2_pass_72 rfl (lv_at hl 3 rfl) ?_
          refine lv_icmp_le (tgt := 105) hx hb dX2_pass_73 (by decide) (fun c_73 => ?_) (fun c_73 => ?_)
          · skip
            have e_73 := c_73
            refine lv_iinc (v := nI (i + 1)) (lv' := [(4, .int (nI (i + 1))), (5, .ref (ad (20 + 4 * i))), (0, .ref (ad 0)), (1, .int x), (2, .int (V 0 0)), (3, .int (nI (cntP (cGone (xu V 0 0 (V 0 0 + x)) (V 0 0) (V 0 0 + x)) i)))]) hx hb dX2_pass_105 hl (k := 5) rfl (nI_add i 1) (by decide) rfl (fun ls hl => ?_)
            refine lv_goto (tgt := 41) hx hb dX2_pass_108 (by decide) ?_
            have hl := lv_sub (l' := [(0, .ref (ad 0)), (1, .int x), (2, .int (V 0 0)), (3, .int (nI (cntP (cGone (xu V 0 0 (V 0 0 + x)) (V 0 0) (V 0 0 + x)) i))), (4, .int (nI (i + 1)))]) hl [2, 3, 4, 5, 0] rfl
            have hl := lv_cast hl (congrArg (fun z : Int32 => ([(0, .ref (ad 0)), (1, .int x), (2, .int (V 0 0)), (3, .int z), (4, .int (nI (i + 1)))] : List (Nat × Value))) (show (nI (cntP (cGone (xu V 0 0 (V 0 0 + x)) (V 0 0) (V 0 0 + x)) i)) = (nI (cntP (cGone (xu V 0 0 (V 0 0 + x)) (V 0 0) (V 0 0 + x)) (i + 1))) from congrArg nI (cntP_f (P := (cGone (xu V 0 0 (V 0 0 + x)) (V 0 0) (V 0 0 + x))) (fun y => (fun z => (of_decide_eq_true ((Bool.and_eq_true _ _ ▸ z : _ ∧ _).1)) e_73) ((Bool.and_eq_true _ _ ▸ y : _ ∧ _).1))).symm))
            have eV : cPass (xu V 0 0 (V 0 0 + x)) (V 0 0) (V 0 0 + x) i = cPass (xu V 0 0 (V 0 0 + x)) (V 0 0) (V 0 0 + x) (i + 1) := (if_neg (fun z => (of_decide_eq_true ((Bool.and_eq_true _ _ ▸ z : _ ∧ _).1)) e_73)).symm
            rw [eV] at G
            exact ih_41 (i + 1) (by omega) (by omega) _ _ _ G hl
          · skip
            refine lv_aload hx hb dX2_pass_76 (lv_at hl 0 rfl) ?_
            refine b_getI B G (Bs i (by omega)) hin0 3 (by decide) (by decide +kernel) dX2_pass_78 ?_
            refine x_top (show _ = (xu V 0 0 (V 0 0 + x)) (20 + 4 * i) 3 from cPass_f _ _ _ _ _ (by decide)) ?_
            refine lv_aload_n hx hb dX2_pass_81 rfl (lv_at hl 1 rfl) ?_
            refine d_getI B G Dl hin2 (by decide +kernel) dX2_pass_82 ?_
            refine x_top (show _ = (V 0 0 + x) from (by rw [cPass_o _ _ _ _ (by decide)]; rfl)) ?_
            refine lv_icmp_gt (tgt := 105) hx hb dX2_pass_85 (by decide) (fun c_85 => ?_) (fun c_85 => ?_)
            · skip
              have e_73 := c_73
              have e_85 := c_85
              refine lv_iinc (v := nI (i + 1)) (lv' := [(4, .int (nI (i + 1))), (5, .ref (ad (20 + 4 * i))), (0, .ref (ad 0)), (1, .int x), (2, .int (V 0 0)), (3, .int (nI (cntP (cGone (xu V 0 0 (V 0 0 + x)) (V 0 0) (V 0 0 + x)) i)))]) hx hb dX2_pass_105 hl (k := 5) rfl (nI_add i 1) (by decide) rfl (fun ls hl => ?_)
              refine lv_goto (tgt := 41) hx hb dX2_pass_108 (by decide) ?_
              have hl := lv_sub (l' := [(0, .ref (ad 0)), (1, .int x), (2, .int (V 0 0)), (3, .int (nI (cntP (cGone (xu V 0 0 (V 0 0 + x)) (V 0 0) (V 0 0 + x)) i))), (4, .int (nI (i + 1)))]) hl [2, 3, 4, 5, 0] rfl
              have hl := lv_cast hl (congrArg (fun z : Int32 => ([(0, .ref (ad 0)), (1, .int x), (2, .int (V 0 0)), (3, .int z), (4, .int (nI (i + 1)))] : List (Nat × Value))) (show (nI (cntP (cGone (xu V 0 0 (V 0 0 + x)) (V 0 0) (V 0 0 + x)) i)) = (nI (cntP (cGone (xu V 0 0 (V 0 0 + x)) (V 0 0) (V 0 0 + x)) (i + 1))) from congrArg nI (cntP_f (P := (cGone (xu V 0 0 (V 0 0 + x)) (V 0 0) (V 0 0 + x))) (fun y => (fun z => (of_decide_eq_true ((Bool.and_eq_true _ _ ▸ z : _ ∧ _).2)) e_85) ((Bool.and_eq_true _ _ ▸ y : _ ∧ _).1))).symm))
              have eV : cPass (xu V 0 0 (V 0 0 + x)) (V 0 0) (V 0 0 + x) i = cPass (xu V 0 0 (V 0 0 + x)) (V 0 0) (V 0 0 + x) (i + 1) := (if_neg (fun z => (of_decide_eq_true ((Bool.and_eq_true _ _ ▸ z : _ ∧ _).2)) e_85)).symm
              rw [eV] at G
              exact ih_41 (i + 1) (by omega) (by omega) _ _ _ G hl
            · skip
              refine lv_aload hx hb dX2_pass_88 (lv_at hl 0 rfl) ?_
              refine x_callVv (rest := []) B G (c_X0_vanish l Cx (cPass (xu V 0 0 (V 0 0 + x)) (V 0 0) (V 0 0 + x) i) (20 + 4 * i) (Bs i (by omega))) (cwV 0 B.1.2.2.2.2 gX2_pass_X0_vanish rfl rfl rfl (by decide +kernel) ⟨Nat.le_of_ble_eq_true rfl, Nat.le_of_ble_eq_true rfl⟩) (b_recv B G (Bs i (by omega))) rfl hl.1 rfl (Nat.le_of_ble_eq_true rfl) ⟨Nat.zero_le _, Nat.zero_le _⟩ dX2_pass_90 (fun H locs G => ?_)
              refine lv_aload hx hb dX2_pass_93 (lv_at hl 0 rfl) ?_
              refine b_getI B G (Bs i (by omega)) hin0 8 (by decide) (by decide +kernel) dX2_pass_95 ?_
              refine x_top (show _ = (xu V 0 0 (V 0 0 + x)) (20 + 4 * i) 8 from (by rw [bGone_f _ _ (by decide), cPass_f _ _ _ _ _ (by decide)])) ?_
              refine lv_iconst (v := (-1)) hx hb dX2_pass_98 (by decide) ?_
              refine lv_icmp_ne (tgt := 105) hx hb dX2_pass_99 (by decide) (fun c_99 => ?_) (fun c_99 => ?_)
              · skip
                have e_73 := c_73
                have e_85 := c_85
                have e_99 := c_99
                refine lv_iinc (v := nI (i + 1)) (lv' := [(4, .int (nI (i + 1))), (5, .ref (ad (20 + 4 * i))), (0, .ref (ad 0)), (1, .int x), (2, .int (V 0 0)), (3, .int (nI (cntP (cGone (xu V 0 0 (V 0 0 + x)) (V 0 0) (V 0 0 + x)) i)))]) hx hb dX2_pass_105 hl (k := 5) rfl (nI_add i 1) (by decide) rfl (fun ls hl => ?_)
                refine lv_goto (tgt := 41) hx hb dX2_pass_108 (by decide) ?_
                have hl := lv_sub (l' := [(0, .ref (ad 0)), (1, .int x), (2, .int (V 0 0)), (3, .int (nI (cntP (cGone (xu V 0 0 (V 0 0 + x)) (V 0 0) (V 0 0 + x)) i))), (4, .int (nI (i + 1)))]) hl [2, 3, 4, 5, 0] rfl
                have hl := lv_cast hl (congrArg (fun z : Int32 => ([(0, .ref (ad 0)), (1, .int x), (2, .int (V 0 0)), (3, .int z), (4, .int (nI (i + 1)))] : List (Nat × Value))) (show (nI (cntP (cGone (xu V 0 0 (V 0 0 + x)) (V 0 0) (V 0 0 + x)) i)) = (nI (cntP (cGone (xu V 0 0 (V 0 0 + x)) (V 0 0) (V 0 0 + x)) (i + 1))) from congrArg nI (cntP_f (P := (cGone (xu V 0 0 (V 0 0 + x)) (V 0 0) (V 0 0 + x))) (fun y => e_99 (of_decide_eq_true ((Bool.and_eq_true _ _ ▸ y : _ ∧ _).2)))).symm))
                have eV : bGone (cPass (xu V 0 0 (V 0 0 + x)) (V 0 0) (V 0 0 + x) i) (20 + 4 * i) = cPass (xu V 0 0 (V 0 0 + x)) (V 0 0) (V 0 0 + x) (i + 1) := (if_pos (by unfold cOver; rw [Bool.and_eq_true]; exact ⟨decide_eq_true e_73, decide_eq_true e_85⟩)).symm
                rw [eV] at G
                exact ih_41 (i + 1) (by omega) (by omega) _ _ _ G hl
              · skip
                refine lv_iinc (v := nI (cntP (cGone (xu V 0 0 (V 0 0 + x)) (V 0 0) (V 0 0 + x)) i + 1)) (lv' := [(3, .int (nI (cntP (cGone (xu V 0 0 (V 0 0 + x)) (V 0 0) (V 0 0 + x)) i + 1))), (5, .ref (ad (20 + 4 * i))), (0, .ref (ad 0)), (1, .int x), (2, .int (V 0 0)), (4, .int (nI i))]) hx hb dX2_pass_102 hl (k := 4) rfl (nI_add (cntP (cGone (xu V 0 0 (V 0 0 + x)) (V 0 0) (V 0 0 + x)) i) 1) (by decide) rfl (fun ls hl => ?_)
                have e_73 := c_73
                have e_85 := c_85
                have e_99 := c_99
                refine lv_iinc (v := nI (i + 1)) (lv' := [(4, .int (nI (i + 1))), (3, .int (nI (cntP (cGone (xu V 0 0 (V 0 0 + x)) (V 0 0) (V 0 0 + x)) i + 1))), (5, .ref (ad (20 + 4 * i))), (0, .ref (ad 0)), (1, .int x), (2, .int (V 0 0))]) hx hb dX2_pass_105 hl (k := 5) rfl (nI_add i 1) (by decide) rfl (fun ls hl => ?_)
                refine lv_goto (tgt := 41) hx hb dX2_pass_108 (by decide) ?_
                have hl := lv_sub (l' := [(0, .ref (ad 0)), (1, .int x), (2, .int (V 0 0)), (3, .int (nI (cntP (cGone (xu V 0 0 (V 0 0 + x)) (V 0 0) (V 0 0 + x)) i + 1))), (4, .int (nI (i + 1)))]) hl [3, 4, 5, 1, 0] rfl
                have hl := lv_cast hl (congrArg (fun z : Int32 => ([(0, .ref (ad 0)), (1, .int x), (2, .int (V 0 0)), (3, .int z), (4, .int (nI (i + 1)))] : List (Nat × Value))) (show (nI (cntP (cGone (xu V 0 0 (V 0 0 + x)) (V 0 0) (V 0 0 + x)) i + 1)) = (nI (cntP (cGone (xu V 0 0 (V 0 0 + x)) (V 0 0) (V 0 0 + x)) (i + 1))) from congrArg nI (cntP_t (P := (cGone (xu V 0 0 (V 0 0 + x)) (V 0 0) (V 0 0 + x))) (by show (cOver _ _ _ _ && _) = true; rw [Bool.and_eq_true]; exact ⟨(by unfold cOver; rw [Bool.and_eq_true]; exact ⟨decide_eq_true e_73, decide_eq_true e_85⟩), decide_eq_true e_99⟩)).symm))
                have eV : bGone (cPass (xu V 0 0 (V 0 0 + x)) (V 0 0) (V 0 0 + x) i) (20 + 4 * i) = cPass (xu V 0 0 (V 0 0 + x)) (V 0 0) (V 0 0 + x) (i + 1) := (if_pos (by unfold cOver; rw [Bool.and_eq_true]; exact ⟨decide_eq_true e_73, decide_eq_true e_85⟩)).symm
                rw [eV] at G
                exact ih_41 (i + 1) (by omega) (by omega) _ _ _ G hl
    have hl := lv_sub (l' := [(0, .ref (ad 0)), (1, .int x), (2, .int (V 0 0)), (3, .int 0), (4, .int 0)]) hl [3, 4, 2, 1, 0] rfl
    have hl := lv_cast hl (congrArg (fun z : Int32 => ([(0, .ref (ad 0)), (1, .int x), (2, .int (V 0 0)), (3, .int z), (4, .int 0)] : List (Nat × Value))) (show 0 = (nI (cntP (cGone (xu V 0 0 (V 0 0 + x)) (V 0 0) (V 0 0 + x)) 0)) from rfl))
    have hl := lv_cast hl (congrArg (fun z : Int32 => ([(0, .ref (ad 0)), (1, .int x), (2, .int (V 0 0)), (3, .int (nI (cntP (cGone (xu V 0 0 (V 0 0 + x)) (V 0 0) (V 0 0 + x)) 0))), (4, .int z)] : List (Nat × Value))) (show 0 = (nI 0) from rfl))
    have eV : xu V 0 0 ((V 0 0) + x) = cPass (xu V 0 0 (V 0 0 + x)) (V 0 0) (V 0 0 + x) 0 := rfl
    rw [eV] at G
    exact loop_41 (nb + 1) 0 (by omega) (by omega) _ _ _ G hl
  · exact False.elim (b2i_0.mp c_8 (h))
set_option maxHeartbeats 4000000 in
set_option maxRecDepth 100000 in
theorem c_X2_setBuffer_ok (l : Launch) {D : va_G} {sh : xS} {ad : Nat → Nat} {cI cZ cO : ClassId} {tys : List (ClassId × FieldType)} {nb : Nat} {od : Nat → Nat} (DL : xDl sh ad cI cZ cO tys nb od) (V : xV) (h4 : V 4 2 = nI nb) (h5 : V 5 2 = nI nb) (n : Nat) (y : Int32) (hn : n < 8) (h1 : 1 ≤ y ∧ y ≤ 8) (h : nI (cntP (cHas V n) nb) ≤ y) : xMi l yX2_setBuffer wsX2_setBuffer (rmK 4) D sh ad tys V [.ref (ad 0), .int (nI n), .int y] (V 1 n) (xu V 1 n y) := by
  refine xOfi (cc := cX2_setBuffer) (nL := 4) (ret := some .int) (own := RX2) (by decide) rfl rfl (Nat.le_of_ble_eq_true rfl) DL.2.2.2.2.2.2.1.2.2 ?_
  intro p e s m args below meth c A ls B G hl
  have hx := B.1.1
  have hb := B.1.2.1
  have hin0 : ∀ w ∈ wsX00, w ∈ wsX2_setBuffer := by decide +kernel
  have hin2 : ∀ w ∈ wsX20, w ∈ wsX2_setBuffer := by decide +kernel
  have hinL : ∀ w ∈ wsJx4a65c0, w ∈ wsX2_setBuffer := by decide +kernel
  have hl : lv_has ls 4 [(0, .ref (ad 0)), (1, .int (nI n)), (2, .int y)] := hl
  obtain ⟨Dl, Pl, L4, L5, Bs, od_lt, Cx, tO, hn40⟩ := id DL
  obtain ⟨a4, s4, -⟩ := id L4
  obtain ⟨a5, s5, -⟩ := id L5
  refine lv_iload_n hx hb dX2_setBuffer_0 rfl (lv_at hl 1 rfl) ?_
  refine x_callSi (rest := []) B G (c_X2_isNode l Cx.2.2 V (nI n)) (va_cwS 1 B.1.2.2.2.2 gX2_setBuffer_X2_isNode rfl rfl rfl (by decide +kernel) ⟨Nat.le_of_ble_eq_true rfl, Nat.le_of_ble_eq_true rfl⟩) rfl hl.1 rfl (Nat.le_of_ble_eq_true rfl) ⟨Nat.zero_le _, Nat.zero_le _⟩ dX2_setBuffer_1 (fun H locs G => ?_)
  refine lv_if_ne (tgt := 17) hx hb dX2_setBuffer_4 (by decide) (fun c_4 => ?_) (fun c_4 => ?_)
  · skip
    refine lv_iload_n hx hb dX2_setBuffer_17 rfl (lv_at hl 2 rfl) ?_
    refine lv_iconst (v := 1) hx hb dX2_setBuffer_18 (by decide) ?_
    refine lv_bipush (v := 8) hx hb dX2_setBuffer_19 (by decide) ?_
    refine x_callSi (rest := []) B G (c_X2_isWithin l Cx.2.2 V y 1 8) (va_cwS 3 B.1.2.2.2.2 gX2_setBuffer_X2_isWithin rfl rfl rfl (by decide +kernel) ⟨Nat.le_of_ble_eq_true rfl, Nat.le_of_ble_eq_true rfl⟩) rfl hl.1 rfl (Nat.le_of_ble_eq_true rfl) ⟨Nat.zero_le _, Nat.zero_le _⟩ dX2_setBuffer_21 (fun H locs G => ?_)
    refine lv_if_ne (tgt := 37) hx hb dX2_setBuffer_24 (by decide) (fun c_24 => ?_) (fun c_24 => ?_)
    · skip
      refine lv_aload_n hx hb dX2_setBuffer_37 rfl (lv_at hl 0 rfl) ?_
      refine lv_iload_n hx hb dX2_setBuffer_38 rfl (lv_at hl 1 rfl) ?_
      refine x_callVi (rest := []) B G (c_X2_countAt l DL V h4 h5 n hn) (cwV 1 B.1.2.2.2.2 gX2_setBuffer_X2_countAt rfl rfl rfl (by decide +kernel) ⟨Nat.le_of_ble_eq_true rfl, Nat.le_of_ble_eq_true rfl⟩) (d_recv B G Dl) rfl hl.1 rfl (Nat.le_of_ble_eq_true rfl) ⟨Nat.zero_le _, Nat.zero_le _⟩ dX2_setBuffer_39 (fun H locs G => ?_)
      refine lv_iload_n hx hb dX2_setBuffer_42 rfl (lv_at hl 2 rfl) ?_
      refine lv_icmp_le (tgt := 56) hx hb dX2_setBuffer_43 (by decide) (fun c_43 => ?_) (fun c_43 => ?_)
      · skip
        refine lv_aload_n hx hb dX2_setBuffer_56 rfl (lv_at hl 0 rfl) ?_
        refine d_getA B G Dl hin2 1 (by decide) (by decide +kernel) dX2_setBuffer_57 ?_
        refine lv_iload_n hx hb dX2_setBuffer_60 rfl (lv_at hl 1 rfl) ?_
        refine x_ald B G (1) Dl.2.1 0 Cx.1 n (show n < 8 from by omega) rfl (by decide) dX2_setBuffer_61 ?_
        refine lv_istore_n (lv' := [(3, .int (V 1 n)), (0, .ref (ad 0)), (1, .int (nI n)), (2, .int y)]) hx hb dX2_setBuffer_62 rfl hl (by decide) rfl (fun ls hl => ?_)
        refine lv_aload_n hx hb dX2_setBuffer_63 rfl (lv_at hl 1 rfl) ?_
        refine d_getA B G Dl hin2 1 (by decide) (by decide +kernel) dX2_setBuffer_64 ?_
        refine lv_iload_n hx hb dX2_setBuffer_67 rfl (lv_at hl 2 rfl) ?_
        refine lv_iload_n hx hb dX2_setBuffer_68 rfl (lv_at hl 3 rfl) ?_
        refine x_ast B G (1) Dl.2.1 0 Cx.1 n (show n < 8 from by omega) rfl (by decide) dX2_setBuffer_69 (fun H locs G => ?_)
        refine lv_iload_n hx hb dX2_setBuffer_70 rfl (lv_at hl 0 rfl) ?_
        exact x_iret B G (rfl) (rfl) dX2_setBuffer_71
      · exact False.elim (absurd h (by simp only [i_lt, i_le] at *; omega))
    · exact False.elim (b2i_0.mp c_24 (h1))
  · exact False.elim (b2i_0.mp c_4 (nodeOK hn))
set_option maxHeartbeats 4000000 in
set_option maxRecDepth 100000 in
theorem c_X2_addContact_ok (l : Launch) {D : va_G} {sh : xS} {ad : Nat → Nat} {cI cZ cO : ClassId} {tys : List (ClassId × FieldType)} {nb : Nat} {od : Nat → Nat} (DL : xDl sh ad cI cZ cO tys nb od) (V : xV) (h4 : V 4 2 = nI nb) (h5 : V 5 2 = nI nb) (x y f g : Int32) (nc : Nat) (hx7 : 0 ≤ x ∧ x ≤ 7) (hy7 : 0 ≤ y ∧ y ≤ 7) (h : x ≠ y ∧ (0 ≤ f ∧ f ≤ 100000) ∧ (f ≤ g ∧ g ≤ 100000)) (hnc : V 6 6 = nI nc) (hc30 : nc < 30) : xMi l yX2_addContact wsX2_addContact (rmK 4) D sh ad tys V [.ref (ad 0), .int x, .int y, .int f, .int g] (nI (nc + 1)) (xu (xu (xu (xu (xu V 9 nc x) 10 nc y) 11 nc f) 12 nc g) 6 6 (nI (nc + 1))) := by
  refine xOfi (cc := cX2_addContact) (nL := 5) (ret := some .int) (own := RX2) (by decide) rfl rfl (Nat.le_of_ble_eq_true rfl) DL.2.2.2.2.2.2.1.2.2 ?_
  intro p e s m args below meth c A ls B G hl
  have hx := B.1.1
  have hb := B.1.2.1
  have hin1 : ∀ w ∈ wsX10, w ∈ wsX2_addContact := by decide +kernel
  have hin2 : ∀ w ∈ wsX20, w ∈ wsX2_addContact := by decide +kernel
  have hl : lv_has ls 5 [(0, .ref (ad 0)), (1, .int x), (2, .int y), (3, .int f), (4, .int g)] := hl
  obtain ⟨Dl, Pl, L4, L5, Bs, od_lt, Cx, tO, hn40⟩ := id DL
  obtain ⟨a4, s4, -⟩ := id L4
  obtain ⟨a5, s5, -⟩ := id L5
  refine lv_iload_n hx hb dX2_addContact_0 rfl (lv_at hl 1 rfl) ?_
  refine x_callSi (rest := []) B G (c_X2_isNode l Cx.2.2 V x) (va_cwS 1 B.1.2.2.2.2 gX2_addContact_X2_isNode rfl rfl rfl (by decide +kernel) ⟨Nat.le_of_ble_eq_true rfl, Nat.le_of_ble_eq_true rfl⟩) rfl hl.1 rfl (Nat.le_of_ble_eq_true rfl) ⟨Nat.zero_le _, Nat.zero_le _⟩ dX2_addContact_1 (fun H locs G => ?_)
  refine lv_if_eq (tgt := 14) hx hb dX2_addContact_4 (by decide) (fun c_4 => ?_) (fun c_4 => ?_)
  · exact False.elim (b2i_0.mp c_4 (hx7))
  · skip
    refine lv_iload_n hx hb dX2_addContact_7 rfl (lv_at hl 2 rfl) ?_
    refine x_callSi (rest := []) B G (c_X2_isNode l Cx.2.2 V y) (va_cwS 1 B.1.2.2.2.2 gX2_addContact_X2_isNode rfl rfl rfl (by decide +kernel) ⟨Nat.le_of_ble_eq_true rfl, Nat.le_of_ble_eq_true rfl⟩) rfl hl.1 rfl (Nat.le_of_ble_eq_true rfl) ⟨Nat.zero_le _, Nat.zero_le _⟩ dX2_addContact_8 (fun H locs G => ?_)
    refine lv_if_ne (tgt := 24) hx hb dX2_addContact_11 (by decide) (fun c_11 => ?_) (fun c_11 => ?_)
    · skip
      refine lv_iload_n hx hb dX2_addContact_24 rfl (lv_at hl 1 rfl) ?_
      refine lv_iload_n hx hb dX2_addContact_25 rfl (lv_at hl 2 rfl) ?_
      refine lv_icmp_eq (tgt := 50) hx hb dX2_addContact_26 (by decide) (fun c_26 => ?_) (fun c_26 => ?_)
      · exact False.elim (h.1 c_26)
      · skip
        refine lv_iload_n hx hb dX2_addContact_29 rfl (lv_at hl 3 rfl) ?_
        refine lv_iconst (v := 0) hx hb dX2_addContact_30 (by decide) ?_
        refine lv_ldc (v := 100000) hx hb B.1.2.2.2.1 (B.1.2.2.2.2 (Cond.constant RX2 143 (100000)) (by decide +kernel)) dX2_addContact_31 ?_
        refine x_callSi (rest := []) B G (c_X2_isWithin l Cx.2.2 V f 0 100000) (va_cwS 3 B.1.2.2.2.2 gX2_addContact_X2_isWithin rfl rfl rfl (by decide +kernel) ⟨Nat.le_of_ble_eq_true rfl, Nat.le_of_ble_eq_true rfl⟩) rfl hl.1 rfl (Nat.le_of_ble_eq_true rfl) ⟨Nat.zero_le _, Nat.zero_le _⟩ dX2_addContact_33 (fun H locs G => ?_)
        refine lv_if_eq (tgt := 50) hx hb dX2_addContact_36 (by decide) (fun c_36 => ?_) (fun c_36 => ?_)
        · exact False.elim (b2i_0.mp c_36 (h.2.1))
        · skip
          refine lv_iload hx hb dX2_addContact_39 (lv_at hl 4 rfl) ?_
          refine lv_iload_n hx hb dX2_addContact_41 rfl (lv_at hl 3 rfl) ?_
          refine lv_ldc (v := 100000) hx hb B.1.2.2.2.1 (B.1.2.2.2.2 (Cond.constant RX2 143 (100000)) (by decide +kernel)) dX2_addContact_42 ?_
          refine x_callSi (rest := []) B G (c_X2_isWithin l Cx.2.2 V g f 100000) (va_cwS 3 B.1.2.2.2.2 gX2_addContact_X2_isWithin rfl rfl rfl (by decide +kernel) ⟨Nat.le_of_ble_eq_true rfl, Nat.le_of_ble_eq_true rfl⟩) rfl hl.1 rfl (Nat.le_of_ble_eq_true rfl) ⟨Nat.zero_le _, Nat.zero_le _⟩ dX2_addContact_44 (fun H locs G => ?_)
          refine lv_if_ne (tgt := 60) hx hb dX2_addContact_47 (by decide) (fun c_47 => ?_) (fun c_47 => ?_)
          · skip
            refine lv_aload_n hx hb dX2_addContact_60 rfl (lv_at hl 0 rfl) ?_
            refine d_getA B G Dl hin2 6 (by decide) (by decide +kernel) dX2_addContact_61 ?_
            refine lv_iload_n hx hb dX2_addContact_64 rfl (lv_at hl 1 rfl) ?_
            refine lv_iload_n hx hb dX2_addContact_65 rfl (lv_at hl 2 rfl) ?_
            refine lv_iload_n hx hb dX2_addContact_66 rfl (lv_at hl 3 rfl) ?_
            refine lv_iload hx hb dX2_addContact_67 (lv_at hl 4 rfl) ?_
            refine x_callVi (rest := []) B G (c_X1_add_ok l Cx V Pl x y f g nc hnc hc30) (cwV 4 B.1.2.2.2.2 gX2_addContact_X1_add rfl rfl rfl (by decide +kernel) ⟨Nat.le_of_ble_eq_true rfl, Nat.le_of_ble_eq_true rfl⟩) (p_recv B G Pl) rfl hl.1 rfl (Nat.le_of_ble_eq_true rfl) ⟨Nat.zero_le _, Nat.zero_le _⟩ dX2_addContact_69 (fun H locs G => ?_)
            refine lv_if_ne (tgt := 85) hx hb dX2_addContact_72 (by decide) (fun c_72 => ?_) (fun c_72 => ?_)
            · skip
              refine lv_aload_n hx hb dX2_addContact_85 rfl (lv_at hl 0 rfl) ?_
              refine d_getA B G Dl hin2 6 (by decide) (by decide +kernel) dX2_addContact_86 ?_
              refine p_getI B G Pl hin1 (by decide +kernel) dX2_addContact_89 ?_
              exact x_iret B G (rfl) (rfl) dX2_addContact_92
            · exact False.elim (absurd c_72 (by decide))
          · exact False.elim (b2i_0.mp c_47 (h.2.2))
    · exact False.elim (b2i_0.mp c_11 (hy7))
def cN1 (V : xV) (a b nb : Nat) : xV := cFind (cTalk V a b nb) a b nb
def cN2 (V : xV) (od : Nat → Nat) (a b nb : Nat) (most : Int32) : Int32 × xV := cDl od a b nb most (nb + 1) 0 0 (cN1 V a b nb)
def cN3 (V : xV) (od : Nat → Nat) (a b nb : Nat) (most : Int32) : Int32 × xV := cSl od a b nb (most - (cN2 V od a b nb most).1) (nb + 1) 0 0 (cN2 V od a b nb most).2
theorem cN1_o (V : xV) (a b nb : Nat) {i : Nat} (h : i < 20) : cN1 V a b nb i = V i := by unfold cN1; rw [cFind_o _ _ _ _ h, cTalk_o _ _ _ _ h]
theorem cN2_o (V : xV) (od : Nat → Nat) (a b nb : Nat) (most : Int32) {i : Nat} (h : i < 20) : (cN2 V od a b nb most).2 i = V i := by unfold cN2; rw [cDl_o _ _ _ _ _ _ _ _ _ h, cN1_o _ _ _ _ h]
theorem cN3_o (V : xV) (od : Nat → Nat) (a b nb : Nat) (most : Int32) {i : Nat} (h : i = 0 ∨ i = 1 ∨ (4 ≤ i ∧ i < 13)) : (cN3 V od a b nb most).2 i = V i := by unfold cN3; rw [cSl_o _ _ _ _ _ _ _ _ _ h, cN2_o _ _ _ _ _ _ (by omega)]
theorem xu_g (W : xV) (b k j i : Nat) (x : Int32) (h : i ≠ k) : xu W b k x j i = W j i := by
  by_cases e : j = b
  · subst e; rw [xu_row, if_neg h]
  · rw [xu_ne _ _ _ e]
theorem bPut_g (V : xV) (b n : Nat) (c h : Int32) (k i : Nat) : bPut V (20 + 4 * b) n c h (20 + 4 * k) i = V (20 + 4 * k) i := by rw [bPut_o _ _ _ _ _ (by omega) (by omega)]
theorem bLearn_g (V : xV) (b n k : Nat) {i : Nat} (h : i ≠ 7) : bLearn V (20 + 4 * b) n (20 + 4 * k) i = V (20 + 4 * k) i := by
  unfold bLearn
  split
  · rw [xu_g _ _ _ _ _ _ h, bPut_g, xu_ne _ _ _ (by omega)]
  · rw [bPut_g, xu_ne _ _ _ (by omega)]
theorem bDeliver_g (V : xV) (b n d : Nat) (t : Int32) (k : Nat) {i : Nat} (h : i < 7) : bDeliver V (20 + 4 * b) n d t (20 + 4 * k) i = V (20 + 4 * k) i := by
  unfold bDeliver
  rw [bLearn_g _ _ _ _ (by omega), bLearn_g _ _ _ _ (by omega), xu_g _ _ _ _ _ _ (by omega), xu_g _ _ _ _ _ _ (by omega)]
theorem cTalk_f (V : xV) (a b k j : Nat) {i : Nat} (h : i ≠ 7) : cTalk V a b k (20 + 4 * j) i = V (20 + 4 * j) i := by
  induction k with
  | zero => rfl
  | succ k ih =>
    unfold cTalk
    split
    · exact ih
    · rw [bLearn_g _ _ _ _ h, bLearn_g _ _ _ _ h, ih]
theorem cFind_f (V : xV) (a b k j : Nat) {i : Nat} (h : i ≠ 10) : cFind V a b k (20 + 4 * j) i = V (20 + 4 * j) i := by
  have e : ∀ (W : xV) (b : Nat) (x : Int32), xu W b 10 x (20 + 4 * j) i = W (20 + 4 * j) i := fun W b x => xu_g _ _ _ _ _ _ h
  induction k with
  | zero => rfl
  | succ k ih =>
    show (fun W : xV => if cCan W (20 + 4 * k) a b then xu W (20 + 4 * k) 10 (nI a) else if cCan W (20 + 4 * k) b a then xu W (20 + 4 * k) 10 (nI b) else W) (xu (cFind V a b k) (20 + 4 * k) 10 (-1)) (20 + 4 * j) i = _
    dsimp only
    split
    · rw [e, e, ih]
    · split
      · rw [e, e, ih]
      · rw [e, ih]
theorem cDl_f (od : Nat → Nat) (a b nb : Nat) (most : Int32) (f i : Nat) (made : Int32) (W : xV) (k : Nat) {j : Nat} (h : j < 7) : (cDl od a b nb most f i made W).2 (20 + 4 * k) j = W (20 + 4 * k) j := by
  induction f generalizing i made W with
  | zero => rfl
  | succ f ih =>
    unfold cDl
    split
    · rfl
    · split
      · rfl
      · split
        · rw [ih, bDeliver_g _ _ _ _ _ _ h]
        · split
          · rw [ih, bDeliver_g _ _ _ _ _ _ h]
          · rw [ih]
theorem cSl_f (od : Nat → Nat) (a b nb : Nat) (most : Int32) (f i : Nat) (made : Int32) (W : xV) (k : Nat) : (cSl od a b nb most f i made W).2 (20 + 4 * k) = W (20 + 4 * k) := by
  induction f generalizing i made W with
  | zero => rfl
  | succ f ih =>
    unfold cSl
    split
    · rfl
    · split
      · rfl
      · split
        · rw [ih, cSpV_o _ _ _ _ _ _ (by omega) (by omega) (by omega)]
        · split
          · rw [ih, cSpV_o _ _ _ _ _ _ (by omega) (by omega) (by omega)]
          · rw [ih]
theorem cN3_f (V : xV) (od : Nat → Nat) (a b nb : Nat) (most : Int32) (k : Nat) {i : Nat} (h : i < 7) : (cN3 V od a b nb most).2 (20 + 4 * k) i = V (20 + 4 * k) i := by
  unfold cN3
  rw [cSl_f]
  unfold cN2
  rw [cDl_f _ _ _ _ _ _ _ _ _ _ h]
  unfold cN1
  rw [cFind_f _ _ _ _ _ (by omega), cTalk_f _ _ _ _ _ (by omega)]
set_option maxHeartbeats 4000000 in
set_option maxRecDepth 100000 in
theorem c_X2_meet_ok (l : Launch) {D : va_G} {sh : xS} {ad : Nat → Nat} {cI cZ cO : ClassId} {tys : List (ClassId × FieldType)} {nb : Nat} {od : Nat → Nat} (DL : xDl sh ad cI cZ cO tys nb od) (V : xV) (h4 : V 4 2 = nI nb) (h5 : V 5 2 = nI nb) (a b nc : Nat) (most : Int32) (ha : a < 8) (hb8 : b < 8) (hab : a ≠ b) (hm : 0 ≤ most ∧ most ≤ 20) (hnc : V 6 6 = nI nc) (hc30 : nc ≤ 30) (hpl : cPl V nc) (hg : ∀ k, k < nb → V (20 + 4 * k) 1 = nI (V (20 + 4 * k) 1).toNatClampNeg ∧ (V (20 + 4 * k) 1).toNatClampNeg < 8) : xMi l yX2_meet wsX2_meet (rmK 7) D sh ad tys V [.ref (ad 0), .int (nI a), .int (nI b), .int most] ((cN2 V od a b nb most).1 + (cN3 V od a b nb most).1) (cMv (cN3 V od a b nb most).2 a b nc nb) := by
  refine xOfi (cc := cX2_meet) (nL := 6) (ret := some .int) (own := RX2) (by decide) rfl rfl (Nat.le_of_ble_eq_true rfl) DL.2.2.2.2.2.2.1.2.2 ?_
  intro p e s m args below meth c A ls B G hl
  have hx := B.1.1
  have hb := B.1.2.1
  have hin0 : ∀ w ∈ wsX00, w ∈ wsX2_meet := by decide +kernel
  have hin1 : ∀ w ∈ wsX10, w ∈ wsX2_meet := by decide +kernel
  have hin2 : ∀ w ∈ wsX20, w ∈ wsX2_meet := by decide +kernel
  have hinL : ∀ w ∈ wsJx4a65c0, w ∈ wsX2_meet := by decide +kernel
  have hl : lv_has ls 6 [(0, .ref (ad 0)), (1, .int (nI a)), (2, .int (nI b)), (3, .int most)] := hl
  obtain ⟨Dl, Pl, L4, L5, Bs, od_lt, Cx, tO, hn40⟩ := id DL
  obtain ⟨a4, s4, -⟩ := id L4
  obtain ⟨a5, s5, -⟩ := id L5
  refine lv_iload_n hx hb dX2_meet_0 rfl (lv_at hl 1 rfl) ?_
  refine x_callSi (rest := []) B G (c_X2_isNode l Cx.2.2 V (nI a)) (va_cwS 1 B.1.2.2.2.2 gX2_meet_X2_isNode rfl rfl rfl (by decide +kernel) ⟨Nat.le_of_ble_eq_true rfl, Nat.le_of_ble_eq_true rfl⟩) rfl hl.1 rfl (Nat.le_of_ble_eq_true rfl) ⟨Nat.zero_le _, Nat.zero_le _⟩ dX2_meet_1 (fun H locs G => ?_)
  refine lv_if_eq (tgt := 14) hx hb dX2_meet_4 (by decide) (fun c_4 => ?_) (fun c_4 => ?_)
  · exact False.elim (b2i_0.mp c_4 (nodeOK ha))
  · skip
    refine lv_iload_n hx hb dX2_meet_7 rfl (lv_at hl 2 rfl) ?_
    refine x_callSi (rest := []) B G (c_X2_isNode l Cx.2.2 V (nI b)) (va_cwS 1 B.1.2.2.2.2 gX2_meet_X2_isNode rfl rfl rfl (by decide +kernel) ⟨Nat.le_of_ble_eq_true rfl, Nat.le_of_ble_eq_true rfl⟩) rfl hl.1 rfl (Nat.le_of_ble_eq_true rfl) ⟨Nat.zero_le _, Nat.zero_le _⟩ dX2_meet_8 (fun H locs G => ?_)
    refine lv_if_ne (tgt := 24) hx hb dX2_meet_11 (by decide) (fun c_11 => ?_) (fun c_11 => ?_)
    · skip
      refine lv_iload_n hx hb dX2_meet_24 rfl (lv_at hl 1 rfl) ?_
      refine lv_iload_n hx hb dX2_meet_25 rfl (lv_at hl 2 rfl) ?_
      refine lv_icmp_eq (tgt := 39) hx hb dX2_meet_26 (by decide) (fun c_26 => ?_) (fun c_26 => ?_)
      · exact False.elim (hab ((nI_eq (by omega) (by omega)).mp c_26))
      · skip
        have c_26 : ¬ (a = b) := fun h9 => c_26 ((nI_eq (a := a) (b := b) (by omega) (by omega)).mpr h9)
        refine lv_iload_n hx hb dX2_meet_29 rfl (lv_at hl 3 rfl) ?_
        refine lv_iconst (v := 0) hx hb dX2_meet_30 (by decide) ?_
        refine lv_bipush (v := 20) hx hb dX2_meet_31 (by decide) ?_
        refine x_callSi (rest := []) B G (c_X2_isWithin l Cx.2.2 V most 0 20) (va_cwS 3 B.1.2.2.2.2 gX2_meet_X2_isWithin rfl rfl rfl (by decide +kernel) ⟨Nat.le_of_ble_eq_true rfl, Nat.le_of_ble_eq_true rfl⟩) rfl hl.1 rfl (Nat.le_of_ble_eq_true rfl) ⟨Nat.zero_le _, Nat.zero_le _⟩ dX2_meet_33 (fun H locs G => ?_)
        refine lv_if_ne (tgt := 49) hx hb dX2_meet_36 (by decide) (fun c_36 => ?_) (fun c_36 => ?_)
        · skip
          refine lv_aload_n hx hb dX2_meet_49 rfl (lv_at hl 0 rfl) ?_
          refine lv_iload_n hx hb dX2_meet_50 rfl (lv_at hl 1 rfl) ?_
          refine lv_iload_n hx hb dX2_meet_51 rfl (lv_at hl 2 rfl) ?_
          refine x_callVv (rest := []) B G (c_X2_exchangeReceipts l DL V h4 h5 a b ha hb8) (cwV 2 B.1.2.2.2.2 gX2_meet_X2_exchangeReceipts rfl rfl rfl (by decide +kernel) ⟨Nat.le_of_ble_eq_true rfl, Nat.le_of_ble_eq_true rfl⟩) (d_recv B G Dl) rfl hl.1 rfl (Nat.le_of_ble_eq_true rfl) ⟨Nat.zero_le _, Nat.zero_le _⟩ dX2_meet_52 (fun H locs G => ?_)
          refine lv_aload_n hx hb dX2_meet_55 rfl (lv_at hl 0 rfl) ?_
          refine lv_iload_n hx hb dX2_meet_56 rfl (lv_at hl 1 rfl) ?_
          refine lv_iload_n hx hb dX2_meet_57 rfl (lv_at hl 2 rfl) ?_
          refine x_callVv (rest := []) B G (c_X2_findSprays l DL (cTalk V a b nb) ((congrFun (cTalk_o V a b nb (i := 4) (by decide)) 2).trans h4) ((congrFun (cTalk_o V a b nb (i := 5) (by decide)) 2).trans h5) a b ha hb8) (cwV 2 B.1.2.2.2.2 gX2_meet_X2_findSprays rfl rfl rfl (by decide +kernel) ⟨Nat.le_of_ble_eq_true rfl, Nat.le_of_ble_eq_true rfl⟩) (d_recv B G Dl) rfl hl.1 rfl (Nat.le_of_ble_eq_true rfl) ⟨Nat.zero_le _, Nat.zero_le _⟩ dX2_meet_58 (fun H locs G => ?_)
          refine lv_aload_n hx hb dX2_meet_61 rfl (lv_at hl 0 rfl) ?_
          refine lv_iload_n hx hb dX2_meet_62 rfl (lv_at hl 1 rfl) ?_
          refine lv_iload_n hx hb dX2_meet_63 rfl (lv_at hl 2 rfl) ?_
          refine lv_iload_n hx hb dX2_meet_64 rfl (lv_at hl 3 rfl) ?_
          refine x_callVi (rest := []) B G (c_X2_deliverSome l DL (cN1 V a b nb) ((congrFun (cN1_o V a b nb (i := 4) (by decide)) 2).trans h4) ((congrFun (cN1_o V a b nb (i := 5) (by decide)) 2).trans h5) a b ha hb8 most) (cwV 3 B.1.2.2.2.2 gX2_meet_X2_deliverSome rfl rfl rfl (by decide +kernel) ⟨Nat.le_of_ble_eq_true rfl, Nat.le_of_ble_eq_true rfl⟩) (d_recv B G Dl) rfl hl.1 rfl (Nat.le_of_ble_eq_true rfl) ⟨Nat.zero_le _, Nat.zero_le _⟩ dX2_meet_65 (fun H locs G => ?_)
          refine lv_istore (lv' := [(4, .int ((cN2 V od a b nb most).1)), (0, .ref (ad 0)), (1, .int (nI a)), (2, .int (nI b)), (3, .int most)]) hx hb dX2_meet_68 hl (by decide) rfl (fun ls hl => ?_)
          refine lv_aload_n hx hb dX2_meet_70 rfl (lv_at hl 1 rfl) ?_
          refine lv_iload_n hx hb dX2_meet_71 rfl (lv_at hl 2 rfl) ?_
          refine lv_iload_n hx hb dX2_meet_72 rfl (lv_at hl 3 rfl) ?_
          refine lv_iload_n hx hb dX2_meet_73 rfl (lv_at hl 4 rfl) ?_
          refine lv_iload hx hb dX2_meet_74 (lv_at hl 0 rfl) ?_
          refine lv_isub hx hb dX2_meet_76 ?_
          refine x_callVi (rest := []) B G (c_X2_spraySome l DL (cN2 V od a b nb most).2 ((congrFun (cN2_o V od a b nb most (i := 4) (by decide)) 2).trans h4) ((congrFun (cN2_o V od a b nb most (i := 5) (by decide)) 2).trans h5) a b ha hb8 (most - (cN2 V od a b nb most).1) hab) (cwV 3 B.1.2.2.2.2 gX2_meet_X2_spraySome rfl rfl rfl (by decide +kernel) ⟨Nat.le_of_ble_eq_true rfl, Nat.le_of_ble_eq_true rfl⟩) (d_recv B G Dl) rfl hl.1 rfl (Nat.le_of_ble_eq_true rfl) ⟨Nat.zero_le _, Nat.zero_le _⟩ dX2_meet_77 (fun H locs G => ?_)
          refine lv_istore (lv' := [(5, .int ((cN3 V od a b nb most).1)), (4, .int ((cN2 V od a b nb most).1)), (0, .ref (ad 0)), (1, .int (nI a)), (2, .int (nI b)), (3, .int most)]) hx hb dX2_meet_80 hl (by decide) rfl (fun ls hl => ?_)
          refine lv_aload_n hx hb dX2_meet_82 rfl (lv_at hl 2 rfl) ?_
          refine lv_iload_n hx hb dX2_meet_83 rfl (lv_at hl 3 rfl) ?_
          refine lv_iload_n hx hb dX2_meet_84 rfl (lv_at hl 4 rfl) ?_
          refine x_callVv (rest := []) B G (c_X2_moveCustody l DL (cN3 V od a b nb most).2 ((congrFun (cN3_o V od a b nb most (i := 4) (by decide)) 2).trans h4) ((congrFun (cN3_o V od a b nb most (i := 5) (by decide)) 2).trans h5) a b ha hb8 nc ((congrFun (cN3_o V od a b nb most (i := 6) (by decide)) 6).trans hnc) hc30 (hpl.eq (cN3_o V od a b nb most (i := 9) (by decide)) (cN3_o V od a b nb most (i := 10) (by decide))) (fun k hk => by rw [cN3_f _ _ _ _ _ _ _ (by decide)]; exact hg k hk)) (cwV 2 B.1.2.2.2.2 gX2_meet_X2_moveCustody rfl rfl rfl (by decide +kernel) ⟨Nat.le_of_ble_eq_true rfl, Nat.le_of_ble_eq_true rfl⟩) (d_recv B G Dl) rfl hl.1 rfl (Nat.le_of_ble_eq_true rfl) ⟨Nat.zero_le _, Nat.zero_le _⟩ dX2_meet_85 (fun H locs G => ?_)
          refine lv_iload hx hb dX2_meet_88 (lv_at hl 1 rfl) ?_
          refine lv_iload hx hb dX2_meet_90 (lv_at hl 0 rfl) ?_
          refine lv_iadd hx hb dX2_meet_92 ?_
          exact x_iret B G (rfl) (rfl) dX2_meet_93
        · exact False.elim (b2i_0.mp c_36 (hm))
    · exact False.elim (b2i_0.mp c_11 (nodeOK hb8))
