/-! BUFFERS: what is held, in its order -/
section HF
variable {t nb nc : Nat} {od S : Nat → Nat} {V : xV}
theorem INV.num (hI : INV t nb nc od S V) {k : Nat} (hk : k < nb) : V (20 + 4 * k) 0 = nI k := by
  obtain ⟨-, -, -, T, h4, h5, h6⟩ := hI
  obtain ⟨g, e, c, h, w, -, ⟨v0, -, -⟩, -⟩ := h6.1 k hk
  exact v0
theorem hO_cnt (hI : INV t nb nc od S V) (n : Nat) : cntP (cHasO V od n) nb = cntP (cHas V n) nb := pm_cnt hI.2.2.1 (cHas V n)
theorem hO_at (hI : INV t nb nc od S V) {n p : Nat} (hp : p < cntP (cHas V n) nb) : ∃ j, j < nb ∧ 0 < V (20 + 4 * od j + 1) n ∧ cntP (cHasO V od n) j = p ∧ od j < nb ∧ V (20 + 4 * od j) 0 = nI (od j) := by
  rw [← hO_cnt hI] at hp
  obtain ⟨j, j1, j2, j3⟩ := cntP_hit hp
  have j4 := pm_lt hI.2.2.1 j j1
  exact ⟨j, j1, of_decide_eq_true j2, j3, j4, hI.num j4⟩
theorem hO_no (hI : INV t nb nc od S V) (n : Nat) : ∀ i, i < nb → 0 < V (20 + 4 * od i + 1) n → ¬ nI (cntP (cHasO V od n) i) = nI (cntP (cHas V n) nb) := by
  intro i hi h z
  have hb := hI.1.2.2
  have q1 := cntP_le (cHasO V od n) i
  have q2 := cntP_le (cHas V n) nb
  rw [nI_eq (by omega) (by omega), ← hO_cnt hI] at z
  have q := cntP_lt (P := cHasO V od n) hi (decide_eq_true h)
  omega
theorem hO_ne (hI : INV t nb nc od S V) {n j j' p q : Nat} (hj : j < nb) (hj' : j' < nb) (hc : cntP (cHasO V od n) j = p) (hc' : cntP (cHasO V od n) j' = q) (hpq : q < p) : ¬ nI (od j') = nI (od j) := by
  intro z
  have hb := hI.1.2.2
  have a := pm_lt hI.2.2.1 j hj
  have b := pm_lt hI.2.2.1 j' hj'
  have e := pm_inj hI.2.2.1 j' j hj' hj ((nI_eq (by omega) (by omega)).mp z)
  rw [e, hc] at hc'
  omega
theorem INV.pl (hI : INV t nb nc od S V) {n : Nat} (hn : n < 8) : cntP (cHas V n) nb ≤ 8 ∧ nI (cntP (cHas V n) nb) ≤ V 1 n := by
  obtain ⟨-, -, -, T, h4, h5, h6⟩ := hI
  obtain ⟨p, p1, p2, p3, p4⟩ := h6.2 n hn
  exact ⟨by omega, by rw [p3]; exact (nI_leI (by omega) (by omega)).mpr p4⟩
end HF
set_option maxHeartbeats 4000000 in
set_option maxRecDepth 100000 in
theorem c_L_buffers (l : Launch) (hst : l.stackTraces = false) {D : va_G} {sh : xS} {ad : Nat → Nat} {cI cZ cO : ClassId} {tys : List (ClassId × FieldType)} {t nb nc : Nat} {od S : Nat → Nat} {mi e0 : Nat} {sa : Nat → Nat} (DW : xDw sh ad cI cZ cO tys e0 nb od) (V : xV) (hI : INV t nb nc od S V) (s17 : sh 17 = some (fun f => .inl (cI, 8, .inl f))) (h17 : ∀ n, n < 8 → V 17 n = V 1 n) : xMl l yL_buffers wsL_buffers (rmLw 4672 105120) D sh ad tys mi e0 sa V [.ref (ad 0), .ref (ad 17)] (fun v sh' ad' V' => v = some (.int 1) ∧ sh' = sh ∧ ad' = ad ∧ V' = V) := by
  have DL := DW.dl
  refine xOfl (cc := cL_buffers) (nL := 8) (ret := some .boolean) (own := RL) (by decide) rfl rfl (Nat.le_of_ble_eq_true rfl) DL.2.2.2.2.2.2.1.2.2 ?_
  intro p e s m args below meth c A ls hA B E F hN G hl
  have hx := B.1.1
  have hb := B.1.2.1
  have Dl := DL.1
  have hT0 := DL.2.2.2.2.2.2.1.1
  have h40 := DL.2.2.2.2.2.2.2.2
  have hl : lv_has ls 8 [(0, .ref (ad 0)), (1, .ref (ad 17))] := hl
  refine lv_iconst (v := 0) hx hb dL_buffers_0 (by decide) ?_
  refine lv_istore_n (lv' := [(2, .int 0), (0, .ref (ad 0)), (1, .ref (ad 17))]) hx hb dL_buffers_1 rfl hl (by decide) rfl (fun ls hl => ?_)
  have loop_2 : ∀ (f n : Nat), n ≤ 8 → 8 < n + f → ∀ (H : Heap) (locs : List Loc) (ls : Array Slot), xG D sh ad A s.heap V H locs → lv_has ls 8 [(0, .ref (ad 0)), (1, .ref (ad 17)), (2, .int (nI n))] → W p l e (rmLw 4672 105120) s m args below meth c H locs (584 * n) (13140 * n) (xQa below D sh ad tys s.heap.size A args s (rmLw 4672 105120).cells (rmLw 4672 105120).slots (fun v sh' ad' V' => v = some (.int 1) ∧ sh' = sh ∧ ad' = ad ∧ V' = V)) (F0 m 2 ls []) := by
    intro f
    induction f with
    | zero => intro n h1 h2; exact absurd h2 (by omega)
    | succ f ih_2 =>
      intro n hi_n hf_n H locs ls G hl
      refine lv_iload_n hx hb dL_buffers_2 rfl (lv_at hl 2 rfl) ?_
      refine lv_bipush (v := 8) hx hb dL_buffers_3 (by decide) ?_
      refine lv_icmp_ge (tgt := 170) hx hb dL_buffers_5 (by decide) (fun c_5 => ?_) (fun c_5 => ?_)
      · skip
        have c_5 : 8 ≤ n := (nI_leI (a := 8) (b := n) (by omega) (by omega)).mp c_5
        refine lv_iconst (v := 1) hx hb dL_buffers_170 (by decide) ?_
        exact x_aendz (Or.inr rfl) hA B G (⟨rfl, rfl, rfl, rfl⟩) (by show _ ≤ 4672; omega) (by show _ ≤ 105120; omega) dL_buffers_171
      · skip
        have c_5 : ¬ (8 ≤ n) := fun h9 => c_5 ((nI_leI (a := 8) (b := n) (by omega) (by omega)).mpr h9)
        refine lv_iconst (v := 0) hx hb dL_buffers_8 (by decide) ?_
        refine lv_istore_n (lv' := [(3, .int 0), (0, .ref (ad 0)), (1, .ref (ad 17)), (2, .int (nI n))]) hx hb dL_buffers_9 rfl hl (by decide) rfl (fun ls hl => ?_)
        refine lv_iconst (v := 0) hx hb dL_buffers_10 (by decide) ?_
        refine lv_istore (lv' := [(4, .int 0), (3, .int 0), (0, .ref (ad 0)), (1, .ref (ad 17)), (2, .int (nI n))]) hx hb dL_buffers_11 hl (by decide) rfl (fun ls hl => ?_)
        refine lv_iconst (v := 0) hx hb dL_buffers_13 (by decide) ?_
        refine lv_istore (lv' := [(5, .int 0), (4, .int 0), (3, .int 0), (0, .ref (ad 0)), (1, .ref (ad 17)), (2, .int (nI n))]) hx hb dL_buffers_14 hl (by decide) rfl (fun ls hl => ?_)
        have loop_16 : ∀ (f k : Nat), k ≤ nb → nb < k + f → ∀ (H : Heap) (locs : List Loc) (ls : Array Slot), xG D sh ad A s.heap V H locs → lv_has ls 8 [(0, .ref (ad 0)), (1, .ref (ad 17)), (2, .int (nI n)), (3, .int (nI (cntP (cHas V n) k))), (4, .int 0), (5, .int (nI k))] → W p l e (rmLw 4672 105120) s m args below meth c H locs (584 * n) (13140 * n) (xQa below D sh ad tys s.heap.size A args s (rmLw 4672 105120).cells (rmLw 4672 105120).slots (fun v sh' ad' V' => v = some (.int 1) ∧ sh' = sh ∧ ad' = ad ∧ V' = V)) (F0 m 16 ls []) := by
          intro f
          induction f with
          | zero => intro k h1 h2; exact absurd h2 (by omega)
          | succ f ih_16 =>
            intro k hi_k hf_k H locs ls G hl
            refine lv_iload hx hb dL_buffers_16 (lv_at hl 5 rfl) ?_
            refine lv_aload_n hx hb dL_buffers_18 rfl (lv_at hl 0 rfl) ?_
            refine x_callVi (rest := [.int (nI k)]) B G (t_bundles l DL hI (TS.refl V)) (cwV 0 B.1.2.2.2.2 gL_buffers_X2_bundles rfl rfl rfl (by decide +kernel) ⟨Nat.le_of_ble_eq_true rfl, Nat.le_of_ble_eq_true rfl⟩) (d_recv B G Dl) rfl hl.1 rfl (Nat.le_of_ble_eq_true rfl) ⟨by show _ ≤ 4672; omega, by show _ ≤ 105120; omega⟩ dL_buffers_19 (fun H locs G => ?_)
            refine lv_icmp_ge (tgt := 49) hx hb dL_buffers_22 (by decide) (fun c_22 => ?_) (fun c_22 => ?_)
            · skip
              have c_22 : nb ≤ k := (nI_leI (a := nb) (b := k) (by omega) (by omega)).mp c_22
              have hl := lv_sub (l' := [(0, .ref (ad 0)), (1, .ref (ad 17)), (2, .int (nI n)), (3, .int (nI (cntP (cHas V n) k))), (4, .int 0)]) hl [0, 1, 2, 3, 4] rfl
              have hl : lv_has ls 8 [(0, .ref (ad 0)), (1, .ref (ad 17)), (2, .int (nI n)), (3, .int (nI (cntP (cHas V n) nb))), (4, .int 0)] := lv_cast hl (by rw [show k = nb by omega])
              have pl := hI.pl (n := n) (by omega)
              refine lv_iload_n hx hb dL_buffers_49 rfl (lv_at hl 3 rfl) ?_
              refine lv_aload_n hx hb dL_buffers_50 rfl (lv_at hl 0 rfl) ?_
              refine lv_iload_n hx hb dL_buffers_51 rfl (lv_at hl 2 rfl) ?_
              refine x_callVi (rest := [.int (nI (cntP (cHas V n) nb))]) B G ((t_node (D := D) l DL hI (TS.refl V) (n := n) (by omega)).1) (cwV 1 B.1.2.2.2.2 gL_buffers_X2_held rfl rfl rfl (by decide +kernel) ⟨Nat.le_of_ble_eq_true rfl, Nat.le_of_ble_eq_true rfl⟩) (d_recv B G Dl) rfl hl.1 rfl (Nat.le_of_ble_eq_true rfl) ⟨by show _ ≤ 4672; omega, by show _ ≤ 105120; omega⟩ dL_buffers_52 (fun H locs G => ?_)
              refine lv_icmp_ne (tgt := 76) hx hb dL_buffers_55 (by decide) (fun c_55 => ?_) (fun c_55 => ?_)
              · exact False.elim (c_55 rfl)
              · skip
                have c_55 : (cntP (cHas V n) nb) = (cntP (cHas V n) nb) := (nI_eq (a := (cntP (cHas V n) nb)) (b := (cntP (cHas V n) nb)) (by omega) (by omega)).mp c_55
                refine lv_iload_n hx hb dL_buffers_58 rfl (lv_at hl 3 rfl) ?_
                refine lv_aload_n hx hb dL_buffers_59 rfl (lv_at hl 1 rfl) ?_
                refine lv_iload_n hx hb dL_buffers_60 rfl (lv_at hl 2 rfl) ?_
                refine x_ald B G 17 s17 0 hT0 n (show n < 8 from by omega) rfl (by decide) dL_buffers_61 ?_
                refine lv_icmp_gt (tgt := 76) hx hb dL_buffers_62 (by decide) (fun c_62 => ?_) (fun c_62 => ?_)
                · exact False.elim (absurd pl.2 (i_nle.mpr (by rw [← h17 n (by omega)]; exact c_62)))
                · skip
                  refine lv_aload_n hx hb dL_buffers_65 rfl (lv_at hl 0 rfl) ?_
                  refine lv_iload_n hx hb dL_buffers_66 rfl (lv_at hl 2 rfl) ?_
                  refine lv_iload_n hx hb dL_buffers_67 rfl (lv_at hl 3 rfl) ?_
                  refine x_callSw (rest := []) B E F hN G (w_at_bad2 l hst DW V hI.1.1 hI.1.2.1 n (nI (cntP (cHas V n) nb)) (by omega) (hO_no hI n)) (vx_cwSW 3 B.1.2.2.2.2 gL_buffers_L_at rfl rfl rfl (by decide +kernel) ⟨Nat.le_of_ble_eq_true rfl, Nat.le_of_ble_eq_true rfl⟩) rfl hl.1 rfl (Nat.le_of_ble_eq_true rfl) ⟨by show _ ≤ 4672; omega, by show _ ≤ 105120; omega⟩ dL_buffers_68 (fun v sh9 ad9 V9 H locs hR B G => ?_)
                  obtain ⟨hv9, h91, h92, h93⟩ := hR
                  rw [h91, h92, h93] at G
                  rw [h91, h92] at B
                  subst hv9
                  refine W.eq (g2 := F0 m 71 ls [.int (-2)]) rfl ?_
                  refine lv_bipush (v := (-2)) hx hb dL_buffers_71 (by decide) ?_
                  refine lv_icmp_eq (tgt := 78) hx hb dL_buffers_73 (by decide) (fun c_73 => ?_) (fun c_73 => ?_)
                  · skip
                    refine lv_iconst (v := 0) hx hb dL_buffers_78 (by decide) ?_
                    refine lv_istore (lv' := [(5, .int 0), (0, .ref (ad 0)), (1, .ref (ad 17)), (2, .int (nI n)), (3, .int (nI (cntP (cHas V n) nb))), (4, .int 0)]) hx hb dL_buffers_79 hl (by decide) rfl (fun ls hl => ?_)
                    have loop_81 : ∀ (f y : Nat), y ≤ cntP (cHas V n) nb → cntP (cHas V n) nb < y + f → ∀ (H : Heap) (locs : List Loc) (ls : Array Slot), xG D sh ad A s.heap V H locs → lv_has ls 8 [(0, .ref (ad 0)), (1, .ref (ad 17)), (2, .int (nI n)), (3, .int (nI (cntP (cHas V n) nb))), (4, .int 0), (5, .int (nI y))] → W p l e (rmLw 4672 105120) s m args below meth c H locs (584 * n + 8 + 72 * y) (13140 * n + 180 + 1620 * y) (xQa below D sh ad tys s.heap.size A args s (rmLw 4672 105120).cells (rmLw 4672 105120).slots (fun v sh' ad' V' => v = some (.int 1) ∧ sh' = sh ∧ ad' = ad ∧ V' = V)) (F0 m 81 ls []) := by
                      intro f
                      induction f with
                      | zero => intro y h1 h2; exact absurd h2 (by omega)
                      | succ f ih_81 =>
                        intro y hi_y hf_y H locs ls G hl
                        refine lv_iload hx hb dL_buffers_81 (lv_at hl 5 rfl) ?_
                        refine lv_iload_n hx hb dL_buffers_83 rfl (lv_at hl 3 rfl) ?_
                        refine lv_icmp_ge (tgt := 157) hx hb dL_buffers_84 (by decide) (fun c_84 => ?_) (fun c_84 => ?_)
                        · skip
                          have c_84 : (cntP (cHas V n) nb) ≤ y := (nI_leI (a := (cntP (cHas V n) nb)) (b := y) (by omega) (by omega)).mp c_84
                          refine lv_iload hx hb dL_buffers_157 (lv_at hl 4 rfl) ?_
                          refine lv_if_eq (tgt := 164) hx hb dL_buffers_159 (by decide) (fun c_159 => ?_) (fun c_159 => ?_)
                          · skip
                            refine lv_iinc (v := nI (n + 1)) (lv' := [(2, .int (nI (n + 1))), (0, .ref (ad 0)), (1, .ref (ad 17)), (3, .int (nI (cntP (cHas V n) nb))), (4, .int 0), (5, .int (nI y))]) hx hb dL_buffers_164 hl (k := 2) rfl (nI_add n 1) (by decide) rfl (fun ls hl => ?_)
                            refine lv_goto (tgt := 2) hx hb dL_buffers_167 (by decide) ?_
                            have hl := lv_sub (l' := [(0, .ref (ad 0)), (1, .ref (ad 17)), (2, .int (nI (n + 1)))]) hl [1, 2, 0] rfl
                            refine W.widen (k := 584 * (n + 1)) (n := 13140 * (n + 1)) (by omega) (by omega) ?_
                            exact ih_2 (n + 1) (by omega) (by omega) _ _ _ G hl
                          · exact False.elim (c_159 (by decide))
                        · skip
                          have c_84 : ¬ ((cntP (cHas V n) nb) ≤ y) := fun h9 => c_84 ((nI_leI (a := (cntP (cHas V n) nb)) (b := y) (by omega) (by omega)).mpr h9)
                          refine lv_aload_n hx hb dL_buffers_87 rfl (lv_at hl 0 rfl) ?_
                          refine lv_iload_n hx hb dL_buffers_88 rfl (lv_at hl 2 rfl) ?_
                          refine lv_iload hx hb dL_buffers_89 (lv_at hl 5 rfl) ?_
                          obtain ⟨j, j1, j2, j3, j4, j5⟩ := hO_at hI (n := n) (p := y) (by omega)
                          refine x_callSw (rest := []) B E F hN G (w_at_ok l DW V hI.1.1 hI.1.2.1 n j (nI y) (by omega) j1 j2 (congrArg nI j3)) (vx_cwSW 3 B.1.2.2.2.2 gL_buffers_L_at rfl rfl rfl (by decide +kernel) ⟨Nat.le_of_ble_eq_true rfl, Nat.le_of_ble_eq_true rfl⟩) rfl hl.1 rfl (Nat.le_of_ble_eq_true rfl) ⟨by show _ ≤ 4672; omega, by show _ ≤ 105120; omega⟩ dL_buffers_91 (fun v sh9 ad9 V9 H locs hR B G => ?_)
                          obtain ⟨hv9, h91, h92, h93⟩ := hR
                          rw [h91, h92, h93] at G
                          rw [h91, h92] at B
                          subst hv9
                          refine W.eq (g2 := F0 m 94 ls [.int (V (20 + 4 * od j) 0)]) rfl ?_
                          refine x_top (show _ = nI (od j) from j5) ?_
                          refine lv_istore (lv' := [(6, .int (nI (od j))), (0, .ref (ad 0)), (1, .ref (ad 17)), (2, .int (nI n)), (3, .int (nI (cntP (cHas V n) nb))), (4, .int 0), (5, .int (nI y))]) hx hb dL_buffers_94 hl (by decide) rfl (fun ls hl => ?_)
                          refine lv_iload hx hb dL_buffers_96 (lv_at hl 0 rfl) ?_
                          refine lv_if_lt (tgt := 111) hx hb dL_buffers_98 (by decide) (fun c_98 => ?_) (fun c_98 => ?_)
                          · exact False.elim (nI_pos (show od j < 2 ^ 31 by omega) c_98)
                          · skip
                            refine lv_aload_n hx hb dL_buffers_101 rfl (lv_at hl 1 rfl) ?_
                            refine lv_iload_n hx hb dL_buffers_102 rfl (lv_at hl 3 rfl) ?_
                            refine lv_iload hx hb dL_buffers_103 (lv_at hl 0 rfl) ?_
                            refine x_callVi (rest := []) B G (t_copies l DL hI (TS.refl V) (n := n) (k := od j) (by omega) (by omega)) (cwV 2 B.1.2.2.2.2 gL_buffers_X2_copies rfl rfl rfl (by decide +kernel) ⟨Nat.le_of_ble_eq_true rfl, Nat.le_of_ble_eq_true rfl⟩) (d_recv B G Dl) rfl hl.1 rfl (Nat.le_of_ble_eq_true rfl) ⟨by show _ ≤ 4672; omega, by show _ ≤ 105120; omega⟩ dL_buffers_105 (fun H locs G => ?_)
                            refine lv_if_ne (tgt := 113) hx hb dL_buffers_108 (by decide) (fun c_108 => ?_) (fun c_108 => ?_)
                            · skip
                              refine lv_iconst (v := 0) hx hb dL_buffers_113 (by decide) ?_
                              refine lv_istore (lv' := [(7, .int 0), (6, .int (nI (od j))), (0, .ref (ad 0)), (1, .ref (ad 17)), (2, .int (nI n)), (3, .int (nI (cntP (cHas V n) nb))), (4, .int 0), (5, .int (nI y))]) hx hb dL_buffers_114 hl (by decide) rfl (fun ls hl => ?_)
                              have loop_116 : ∀ (f q : Nat), q ≤ y → y < q + f → ∀ (H : Heap) (locs : List Loc) (ls : Array Slot), xG D sh ad A s.heap V H locs → lv_has ls 8 [(0, .ref (ad 0)), (1, .ref (ad 17)), (2, .int (nI n)), (3, .int (nI (cntP (cHas V n) nb))), (4, .int 0), (5, .int (nI y)), (6, .int (nI (od j))), (7, .int (nI q))] → W p l e (rmLw 4672 105120) s m args below meth c H locs (584 * n + 8 + 72 * y + 8 + 8 * q) (13140 * n + 180 + 1620 * y + 180 + 180 * q) (xQa below D sh ad tys s.heap.size A args s (rmLw 4672 105120).cells (rmLw 4672 105120).slots (fun v sh' ad' V' => v = some (.int 1) ∧ sh' = sh ∧ ad' = ad ∧ V' = V)) (F0 m 116 ls []) := by
                                intro f
                                induction f with
                                | zero => intro q h1 h2; exact absurd h2 (by omega)
                                | succ f ih_116 =>
                                  intro q hi_q hf_q H locs ls G hl
                                  refine lv_iload hx hb dL_buffers_116 (lv_at hl 7 rfl) ?_
                                  refine lv_iload hx hb dL_buffers_118 (lv_at hl 5 rfl) ?_
                                  refine lv_icmp_ge (tgt := 151) hx hb dL_buffers_120 (by decide) (fun c_120 => ?_) (fun c_120 => ?_)
                                  · skip
                                    have c_120 : y ≤ q := (nI_leI (a := y) (b := q) (by omega) (by omega)).mp c_120
                                    refine lv_iinc (v := nI (y + 1)) (lv' := [(5, .int (nI (y + 1))), (0, .ref (ad 0)), (1, .ref (ad 17)), (2, .int (nI n)), (3, .int (nI (cntP (cHas V n) nb))), (4, .int 0), (6, .int (nI (od j))), (7, .int (nI q))]) hx hb dL_buffers_151 hl (k := 5) rfl (nI_add y 1) (by decide) rfl (fun ls hl => ?_)
                                    refine lv_goto (tgt := 81) hx hb dL_buffers_154 (by decide) ?_
                                    have hl := lv_sub (l' := [(0, .ref (ad 0)), (1, .ref (ad 17)), (2, .int (nI n)), (3, .int (nI (cntP (cHas V n) nb))), (4, .int 0), (5, .int (nI (y + 1)))]) hl [1, 2, 3, 4, 5, 0] rfl
                                    refine W.widen (k := 584 * n + 8 + 72 * (y + 1)) (n := 13140 * n + 180 + 1620 * (y + 1)) (by omega) (by omega) ?_
                                    exact ih_81 (y + 1) (by omega) (by omega) _ _ _ G hl
                                  · skip
                                    have c_120 : ¬ (y ≤ q) := fun h9 => c_120 ((nI_leI (a := y) (b := q) (by omega) (by omega)).mpr h9)
                                    refine lv_iload hx hb dL_buffers_123 (lv_at hl 4 rfl) ?_
                                    refine lv_aload_n hx hb dL_buffers_125 rfl (lv_at hl 0 rfl) ?_
                                    refine lv_iload_n hx hb dL_buffers_126 rfl (lv_at hl 2 rfl) ?_
                                    refine lv_iload hx hb dL_buffers_127 (lv_at hl 7 rfl) ?_
                                    obtain ⟨j9, j91, j92, j93, j94, j95⟩ := hO_at hI (n := n) (p := q) (by omega)
                                    refine x_callSw (rest := [.int 0]) B E F hN G (w_at_ok l DW V hI.1.1 hI.1.2.1 n j9 (nI q) (by omega) j91 j92 (congrArg nI j93)) (vx_cwSW 3 B.1.2.2.2.2 gL_buffers_L_at rfl rfl rfl (by decide +kernel) ⟨Nat.le_of_ble_eq_true rfl, Nat.le_of_ble_eq_true rfl⟩) rfl hl.1 rfl (Nat.le_of_ble_eq_true rfl) ⟨by show _ ≤ 4672; omega, by show _ ≤ 105120; omega⟩ dL_buffers_129 (fun v sh9 ad9 V9 H locs hR B G => ?_)
                                    obtain ⟨hv9, h91, h92, h93⟩ := hR
                                    rw [h91, h92, h93] at G
                                    rw [h91, h92] at B
                                    subst hv9
                                    refine W.eq (g2 := F0 m 132 ls [.int (V (20 + 4 * od j9) 0), .int 0]) rfl ?_
                                    refine x_top (show _ = nI (od j9) from j95) ?_
                                    refine lv_iload hx hb dL_buffers_132 (lv_at hl 6 rfl) ?_
                                    refine lv_icmp_ne (tgt := 141) hx hb dL_buffers_134 (by decide) (fun c_134 => ?_) (fun c_134 => ?_)
                                    · skip
                                      have c_134 : ¬ ((od j9) = (od j)) := fun h9 => c_134 ((nI_eq (a := (od j9)) (b := (od j)) (by omega) (by omega)).mpr h9)
                                      refine lv_iconst (v := 0) hx hb dL_buffers_141 (by decide) ?_
                                      refine lv_iadd hx hb dL_buffers_142 ?_
                                      refine lv_istore (lv' := [(4, .int (0 + 0)), (0, .ref (ad 0)), (1, .ref (ad 17)), (2, .int (nI n)), (3, .int (nI (cntP (cHas V n) nb))), (5, .int (nI y)), (6, .int (nI (od j))), (7, .int (nI q))]) hx hb dL_buffers_143 hl (by decide) rfl (fun ls hl => ?_)
                                      refine lv_iinc (v := nI (q + 1)) (lv' := [(7, .int (nI (q + 1))), (4, .int (0 + 0)), (0, .ref (ad 0)), (1, .ref (ad 17)), (2, .int (nI n)), (3, .int (nI (cntP (cHas V n) nb))), (5, .int (nI y)), (6, .int (nI (od j)))]) hx hb dL_buffers_145 hl (k := 7) rfl (nI_add q 1) (by decide) rfl (fun ls hl => ?_)
                                      refine lv_goto (tgt := 116) hx hb dL_buffers_148 (by decide) ?_
                                      have hl := lv_sub (l' := [(0, .ref (ad 0)), (1, .ref (ad 17)), (2, .int (nI n)), (3, .int (nI (cntP (cHas V n) nb))), (4, .int (0 + 0)), (5, .int (nI y)), (6, .int (nI (od j))), (7, .int (nI (q + 1)))]) hl [2, 3, 4, 5, 1, 6, 7, 0] rfl
                                      have hl := lv_cast hl (congrArg (fun z : Int32 => ([(0, .ref (ad 0)), (1, .ref (ad 17)), (2, .int (nI n)), (3, .int (nI (cntP (cHas V n) nb))), (4, .int z), (5, .int (nI y)), (6, .int (nI (od j))), (7, .int (nI (q + 1)))] : List (Nat × Value))) (show (0 + 0) = 0 from rfl))
                                      refine W.widen (k := 584 * n + 8 + 72 * y + 8 + 8 * (q + 1)) (n := 13140 * n + 180 + 1620 * y + 180 + 180 * (q + 1)) (by omega) (by omega) ?_
                                      exact ih_116 (q + 1) (by omega) (by omega) _ _ _ G hl
                                    · exact False.elim (hO_ne hI j1 j91 j3 j93 (by omega) c_134)
                              have hl := lv_sub (l' := [(0, .ref (ad 0)), (1, .ref (ad 17)), (2, .int (nI n)), (3, .int (nI (cntP (cHas V n) nb))), (4, .int 0), (5, .int (nI y)), (6, .int (nI (od j))), (7, .int 0)]) hl [2, 3, 4, 5, 6, 7, 1, 0] rfl
                              have hl := lv_cast hl (congrArg (fun z : Int32 => ([(0, .ref (ad 0)), (1, .ref (ad 17)), (2, .int (nI n)), (3, .int (nI (cntP (cHas V n) nb))), (4, .int 0), (5, .int (nI y)), (6, .int (nI (od j))), (7, .int z)] : List (Nat × Value))) (show 0 = (nI 0) from rfl))
                              refine W.widen (k := 584 * n + 8 + 72 * y + 8 + 8 * 0) (n := 13140 * n + 180 + 1620 * y + 180 + 180 * 0) (by omega) (by omega) ?_
                              exact loop_116 (y + 1) 0 (by omega) (by omega) _ _ _ G hl
                            · exact False.elim (absurd j2 (by rw [c_108]; decide))
                    have hl := lv_sub (l' := [(0, .ref (ad 0)), (1, .ref (ad 17)), (2, .int (nI n)), (3, .int (nI (cntP (cHas V n) nb))), (4, .int 0), (5, .int 0)]) hl [1, 2, 3, 4, 5, 0] rfl
                    have hl := lv_cast hl (congrArg (fun z : Int32 => ([(0, .ref (ad 0)), (1, .ref (ad 17)), (2, .int (nI n)), (3, .int (nI (cntP (cHas V n) nb))), (4, .int 0), (5, .int z)] : List (Nat × Value))) (show 0 = (nI 0) from rfl))
                    refine W.widen (k := 584 * n + 8 + 72 * 0) (n := 13140 * n + 180 + 1620 * 0) (by omega) (by omega) ?_
                    exact loop_81 (cntP (cHas V n) nb + 1) 0 (by omega) (by omega) _ _ _ G hl
                  · exact False.elim (c_73 rfl)
            · skip
              have c_22 : ¬ (nb ≤ k) := fun h9 => c_22 ((nI_leI (a := nb) (b := k) (by omega) (by omega)).mpr h9)
              refine lv_iload_n hx hb dL_buffers_25 rfl (lv_at hl 3 rfl) ?_
              refine lv_aload_n hx hb dL_buffers_26 rfl (lv_at hl 0 rfl) ?_
              refine lv_iload_n hx hb dL_buffers_27 rfl (lv_at hl 2 rfl) ?_
              refine lv_iload hx hb dL_buffers_28 (lv_at hl 5 rfl) ?_
              refine x_callVi (rest := [.int (nI (cntP (cHas V n) k))]) B G (t_copies l DL hI (TS.refl V) (n := n) (k := k) (by omega) (by omega)) (cwV 2 B.1.2.2.2.2 gL_buffers_X2_copies rfl rfl rfl (by decide +kernel) ⟨Nat.le_of_ble_eq_true rfl, Nat.le_of_ble_eq_true rfl⟩) (d_recv B G Dl) rfl hl.1 rfl (Nat.le_of_ble_eq_true rfl) ⟨by show _ ≤ 4672; omega, by show _ ≤ 105120; omega⟩ dL_buffers_30 (fun H locs G => ?_)
              refine lv_if_le (tgt := 40) hx hb dL_buffers_33 (by decide) (fun c_33 => ?_) (fun c_33 => ?_)
              · skip
                refine lv_iconst (v := 0) hx hb dL_buffers_40 (by decide) ?_
                refine lv_iadd hx hb dL_buffers_41 ?_
                refine x_top (show (nI (cntP (cHas V n) k)) + 0 = nI ((cntP (cHas V n) k) + 0) from nI_add (cntP (cHas V n) k) 0) ?_
                refine lv_istore_n (lv' := [(3, .int (nI ((cntP (cHas V n) k) + 0))), (0, .ref (ad 0)), (1, .ref (ad 17)), (2, .int (nI n)), (4, .int 0), (5, .int (nI k))]) hx hb dL_buffers_42 rfl hl (by decide) rfl (fun ls hl => ?_)
                refine lv_iinc (v := nI (k + 1)) (lv' := [(5, .int (nI (k + 1))), (3, .int (nI ((cntP (cHas V n) k) + 0))), (0, .ref (ad 0)), (1, .ref (ad 17)), (2, .int (nI n)), (4, .int 0)]) hx hb dL_buffers_43 hl (k := 5) rfl (nI_add k 1) (by decide) rfl (fun ls hl => ?_)
                refine lv_goto (tgt := 16) hx hb dL_buffers_46 (by decide) ?_
                have hl := lv_sub (l' := [(0, .ref (ad 0)), (1, .ref (ad 17)), (2, .int (nI n)), (3, .int (nI ((cntP (cHas V n) k) + 0))), (4, .int 0), (5, .int (nI (k + 1)))]) hl [2, 3, 4, 1, 5, 0] rfl
                have hl := lv_cast hl (congrArg (fun z : Int32 => ([(0, .ref (ad 0)), (1, .ref (ad 17)), (2, .int (nI n)), (3, .int z), (4, .int 0), (5, .int (nI (k + 1)))] : List (Nat × Value))) (show (nI ((cntP (cHas V n) k) + 0)) = (nI (cntP (cHas V n) (k + 1))) from congrArg nI (cntP_f (P := cHas V n) (fun z => i_nlt.mpr c_33 (of_decide_eq_true z))).symm))
                refine W.widen (k := 584 * n) (n := 13140 * n) (by omega) (by omega) ?_
                exact ih_16 (k + 1) (by omega) (by omega) _ _ _ G hl
              · skip
                refine lv_iconst (v := 1) hx hb dL_buffers_36 (by decide) ?_
                refine lv_goto (tgt := 41) hx hb dL_buffers_37 (by decide) ?_
                refine lv_iadd hx hb dL_buffers_41 ?_
                refine x_top (show (nI (cntP (cHas V n) k)) + 1 = nI ((cntP (cHas V n) k) + 1) from nI_add (cntP (cHas V n) k) 1) ?_
                refine lv_istore_n (lv' := [(3, .int (nI ((cntP (cHas V n) k) + 1))), (0, .ref (ad 0)), (1, .ref (ad 17)), (2, .int (nI n)), (4, .int 0), (5, .int (nI k))]) hx hb dL_buffers_42 rfl hl (by decide) rfl (fun ls hl => ?_)
                refine lv_iinc (v := nI (k + 1)) (lv' := [(5, .int (nI (k + 1))), (3, .int (nI ((cntP (cHas V n) k) + 1))), (0, .ref (ad 0)), (1, .ref (ad 17)), (2, .int (nI n)), (4, .int 0)]) hx hb dL_buffers_43 hl (k := 5) rfl (nI_add k 1) (by decide) rfl (fun ls hl => ?_)
                refine lv_goto (tgt := 16) hx hb dL_buffers_46 (by decide) ?_
                have hl := lv_sub (l' := [(0, .ref (ad 0)), (1, .ref (ad 17)), (2, .int (nI n)), (3, .int (nI ((cntP (cHas V n) k) + 1))), (4, .int 0), (5, .int (nI (k + 1)))]) hl [2, 3, 4, 1, 5, 0] rfl
                have hl := lv_cast hl (congrArg (fun z : Int32 => ([(0, .ref (ad 0)), (1, .ref (ad 17)), (2, .int (nI n)), (3, .int z), (4, .int 0), (5, .int (nI (k + 1)))] : List (Nat × Value))) (show (nI ((cntP (cHas V n) k) + 1)) = (nI (cntP (cHas V n) (k + 1))) from congrArg nI (cntP_t (P := cHas V n) (decide_eq_true (i_nle.mp c_33))).symm))
                refine W.widen (k := 584 * n) (n := 13140 * n) (by omega) (by omega) ?_
                exact ih_16 (k + 1) (by omega) (by omega) _ _ _ G hl
        have hl := lv_sub (l' := [(0, .ref (ad 0)), (1, .ref (ad 17)), (2, .int (nI n)), (3, .int 0), (4, .int 0), (5, .int 0)]) hl [3, 4, 5, 2, 1, 0] rfl
        have hl := lv_cast hl (congrArg (fun z : Int32 => ([(0, .ref (ad 0)), (1, .ref (ad 17)), (2, .int (nI n)), (3, .int z), (4, .int 0), (5, .int 0)] : List (Nat × Value))) (show 0 = (nI (cntP (cHas V n) 0)) from rfl))
        have hl := lv_cast hl (congrArg (fun z : Int32 => ([(0, .ref (ad 0)), (1, .ref (ad 17)), (2, .int (nI n)), (3, .int (nI (cntP (cHas V n) 0))), (4, .int 0), (5, .int z)] : List (Nat × Value))) (show 0 = (nI 0) from rfl))
        refine W.widen (k := 584 * n) (n := 13140 * n) (by omega) (by omega) ?_
        exact loop_16 (nb + 1) 0 (by omega) (by omega) _ _ _ G hl
  have hl := lv_sub (l' := [(0, .ref (ad 0)), (1, .ref (ad 17)), (2, .int 0)]) hl [1, 2, 0] rfl
  have hl := lv_cast hl (congrArg (fun z : Int32 => ([(0, .ref (ad 0)), (1, .ref (ad 17)), (2, .int z)] : List (Nat × Value))) (show 0 = (nI 0) from rfl))
  refine W.widen (k := 584 * 0) (n := 13140 * 0) (by omega) (by omega) ?_
  exact loop_2 (8 + 1) 0 (by omega) (by omega) _ _ _ G hl
