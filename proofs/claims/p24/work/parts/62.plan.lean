/-! PLAN: arrivals in two ways, what is promised -/
section AF
variable {t nb nc : Nat} {od S : Nat → Nat} {V : xV}
theorem INV.now (hI : INV t nb nc od S V) (ht : t ≤ 100000) : ∃ T, T < 2147483647 ∧ V 0 0 = nI T := by
  obtain ⟨-, -, -, T, h4, h5, -⟩ := hI
  exact ⟨T, by omega, h5⟩
theorem now_NEV (hI : INV t nb nc od S V) (ht : t ≤ 100000) : V 0 0 ≠ NEV := by
  obtain ⟨T, hT, e⟩ := hI.now ht
  intro z
  have q := congrArg Int32.toInt z
  rw [NEV_int, e, nI_toInt (by omega)] at q
  omega
theorem now_0 (hI : INV t nb nc od S V) (ht : t ≤ 100000) : 0 ≤ V 0 0 := by
  obtain ⟨T, hT, e⟩ := hI.now ht
  rw [e]
  exact nI_pos' (by omega)
theorem aQ_f (hI : INV t nb nc od S V) {n d : Nat} (hd : d < 8) : aQ V nc n d = -1 ∨ V 0 0 ≤ aQ V nc n d := by
  unfold aQ
  split
  · exact Or.inl rfl
  · exact Or.inr (fin_low hI.2.1.2.2 hd)
theorem aQ_s (hI : INV t nb nc od S V) (ht : t ≤ 100000) {n : Nat} (hn : n < 8) : aQ V nc n n = V 0 0 := by
  unfold aQ
  rw [fin_self hI.2.1.2.2 hn, if_neg (now_NEV hI ht)]
theorem aQ_1 (hI : INV t nb nc od S V) (ht : t ≤ 100000) {n d : Nat} (hd : d < 8) : ¬ aQ V nc n d < -1 := by
  have z0 := now_0 hI ht
  rcases aQ_f (n := n) hI hd with z | z
  · rw [z]; decide
  · intro q
    have t0 : (0 : Int32).toInt = 0 := by decide
    have t1 : (-1 : Int32).toInt = -1 := by decide
    rw [i_le] at z z0
    rw [i_lt] at q
    omega
theorem aQ_2 (hI : INV t nb nc od S V) {n d : Nat} (hd : d < 8) (h0 : ¬ aQ V nc n d < 0) : ¬ aQ V nc n d < V 0 0 := by
  rcases aQ_f (n := n) hI hd with z | z
  · rw [z] at h0; exact absurd m1_lt h0
  · exact i_nlt.mpr z
theorem eQ_f (hI : INV t nb nc od S V) {k : Nat} (hd : bD V k < 8) (n : Nat) : eQ V nc k n = NEV ∨ (V 0 0 ≤ eQ V nc k n ∧ ∃ m, m < n ∧ 0 < V (20 + 4 * k + 1) m) := by
  induction n with
  | zero => exact Or.inl rfl
  | succ n ih =>
    unfold eQ
    by_cases c : 0 < V (20 + 4 * k + 1) n
    · rw [if_pos c]
      refine Or.inr ⟨?_, n, by omega, c⟩
      split
      · exact fin_low hI.2.1.2.2 hd
      · rcases ih with z | z
        · rw [z]; exact le_NEV _
        · exact z.1
    · rw [if_neg c]
      rcases ih with z | ⟨z, m, m1, m2⟩
      · exact Or.inl z
      · exact Or.inr ⟨z, m, by omega, m2⟩
theorem pQ_f (hI : INV t nb nc od S V) (ht : t ≤ 100000) {k : Nat} (hk : k < nb) : pQ V nc k < V (20 + 4 * k) 3 ∧ (¬ pQ V nc k < 0 → ¬ pQ V nc k < V 0 0 ∧ ¬ cBits V (20 + 4 * k) 8 = 0) := by
  have hd : bD V k < 8 := (hI.dst k hk).2
  have he : (-1 : Int32) < V (20 + 4 * k) 3 := by
    obtain ⟨-, -, -, T, h4, h5, h6⟩ := hI
    obtain ⟨g, e, c, h, w, ⟨a1, a2, a3⟩, ⟨-, -, v3⟩, -⟩ := h6.1 k hk
    have t1 : (-1 : Int32).toInt = -1 := by decide
    rw [v3, i_lt, nI_toInt (by omega)]
    omega
  unfold pQ
  by_cases c : eQ V nc k 8 < V (20 + 4 * k) 3
  · rw [if_pos c]
    by_cases c2 : eQ V nc k 8 = NEV
    · rw [if_pos c2]
      exact ⟨he, fun z => absurd m1_lt z⟩
    · rw [if_neg c2]
      refine ⟨c, fun _ => ?_⟩
      rcases eQ_f hI hd 8 with z | ⟨z, m, m1, m2⟩
      · exact absurd z c2
      · exact ⟨i_nlt.mpr z, cBits_ne V _ m1 m2⟩
  · rw [if_neg c]
    exact ⟨he, fun z => absurd m1_lt z⟩
end AF
set_option maxHeartbeats 4000000 in
set_option maxRecDepth 100000 in
theorem c_L_plan (l : Launch) {D : va_G} {sh : xS} {ad : Nat → Nat} {cI cZ cO : ClassId} {tys : List (ClassId × FieldType)} {t nb nc : Nat} {od S : Nat → Nat} {mi e0 : Nat} {sa : Nat → Nat} (DL : xDl sh ad cI cZ cO tys nb od) (V : xV) (hI : INV t nb nc od S V) (ht : t ≤ 100000) (x : Int32) : xMl l yL_plan wsL_plan (rmLw 0 0) D sh ad tys mi e0 sa V [.ref (ad 0), .int x] (fun v sh' ad' V' => v = some (.int 1) ∧ sh' = sh ∧ ad' = ad ∧ TI 13 V V') := by
  refine xOfl (cc := cL_plan) (nL := 5) (ret := some .boolean) (own := RL) (by decide) rfl rfl (Nat.le_of_ble_eq_true rfl) DL.2.2.2.2.2.2.1.2.2 ?_
  intro p e s m args below meth c A ls hA B E F hN G hl
  have hx := B.1.1
  have hb := B.1.2.1
  have Dl := DL.1
  have h40 := DL.2.2.2.2.2.2.2.2
  have hT := TI.refl 13 V
  have hl : lv_has ls 5 [(0, .ref (ad 0)), (1, .int x)] := hl
  refine lv_iconst (v := 0) hx hb dL_plan_0 (by decide) ?_
  refine lv_istore_n (lv' := [(2, .int 0), (0, .ref (ad 0)), (1, .int x)]) hx hb dL_plan_1 rfl hl (by decide) rfl (fun ls hl => ?_)
  have loop_2 : ∀ (f n : Nat) (Z : xV), n ≤ 8 → 8 < n + f → (TI 13 V Z) → ∀ (H : Heap) (locs : List Loc) (ls : Array Slot), xG D sh ad A s.heap Z H locs → lv_has ls 5 [(0, .ref (ad 0)), (1, .int x), (2, .int (nI n))] → W p l e (rmLw 0 0) s m args below meth c H locs (0) (0) (xQa below D sh ad tys s.heap.size A args s (rmLw 0 0).cells (rmLw 0 0).slots (fun v sh' ad' V' => v = some (.int 1) ∧ sh' = sh ∧ ad' = ad ∧ TI 13 V V')) (F0 m 2 ls []) := by
    intro f
    induction f with
    | zero => intro n Z h1 h2; exact absurd h2 (by omega)
    | succ f ih_2 =>
      intro n Z hi hf hT H locs ls G hl
      refine lv_iload_n hx hb dL_plan_2 rfl (lv_at hl 2 rfl) ?_
      refine lv_bipush (v := 8) hx hb dL_plan_3 (by decide) ?_
      refine lv_icmp_ge (tgt := 77) hx hb dL_plan_5 (by decide) (fun c_5 => ?_) (fun c_5 => ?_)
      · skip
        have c_5 : 8 ≤ n := (nI_leI (a := 8) (b := n) (by omega) (by omega)).mp c_5
        refine lv_iconst (v := 0) hx hb dL_plan_77 (by decide) ?_
        refine lv_istore_n (lv' := [(2, .int 0), (0, .ref (ad 0)), (1, .int x)]) hx hb dL_plan_78 rfl hl (by decide) rfl (fun ls hl => ?_)
        have loop_79 : ∀ (f k : Nat) (Z : xV), k ≤ nb → nb < k + f → (TI 13 V Z) → ∀ (H : Heap) (locs : List Loc) (ls : Array Slot), xG D sh ad A s.heap Z H locs → lv_has ls 5 [(0, .ref (ad 0)), (1, .int x), (2, .int (nI k))] → W p l e (rmLw 0 0) s m args below meth c H locs (0) (0) (xQa below D sh ad tys s.heap.size A args s (rmLw 0 0).cells (rmLw 0 0).slots (fun v sh' ad' V' => v = some (.int 1) ∧ sh' = sh ∧ ad' = ad ∧ TI 13 V V')) (F0 m 79 ls []) := by
          intro f
          induction f with
          | zero => intro k Z h1 h2; exact absurd h2 (by omega)
          | succ f ih_79 =>
            intro k Z hi hf hT H locs ls G hl
            refine lv_iload_n hx hb dL_plan_79 rfl (lv_at hl 2 rfl) ?_
            refine lv_aload_n hx hb dL_plan_80 rfl (lv_at hl 0 rfl) ?_
            refine x_callVi (rest := [.int (nI k)]) B G (t_bundles l DL hI (hT.ts (Or.inl rfl))) (cwV 0 B.1.2.2.2.2 gL_plan_X2_bundles rfl rfl rfl (by decide +kernel) ⟨Nat.le_of_ble_eq_true rfl, Nat.le_of_ble_eq_true rfl⟩) (d_recv B G Dl) rfl hl.1 rfl (Nat.le_of_ble_eq_true rfl) ⟨Nat.zero_le _, Nat.zero_le _⟩ dL_plan_81 (fun H locs G => ?_)
            refine lv_icmp_ge (tgt := 130) hx hb dL_plan_84 (by decide) (fun c_84 => ?_) (fun c_84 => ?_)
            · skip
              have c_84 : nb ≤ k := (nI_leI (a := nb) (b := k) (by omega) (by omega)).mp c_84
              refine lv_iconst (v := 1) hx hb dL_plan_130 (by decide) ?_
              exact x_aendz (Or.inr rfl) hA B G (⟨rfl, rfl, rfl, hT⟩) (Nat.le_refl _) (Nat.le_refl _) dL_plan_131
            · skip
              have c_84 : ¬ (nb ≤ k) := fun h9 => c_84 ((nI_leI (a := nb) (b := k) (by omega) (by omega)).mpr h9)
              refine lv_aload_n hx hb dL_plan_87 rfl (lv_at hl 0 rfl) ?_
              refine lv_iload_n hx hb dL_plan_88 rfl (lv_at hl 2 rfl) ?_
              refine x_callVi (rest := []) B G (t_promised l DL hI (hT.ts (Or.inl rfl)) (k := k) (by omega)) (cwV 1 B.1.2.2.2.2 gL_plan_X2_promised rfl rfl rfl (by decide +kernel) ⟨Nat.le_of_ble_eq_true rfl, Nat.le_of_ble_eq_true rfl⟩) (d_recv B G Dl) rfl hl.1 rfl (Nat.le_of_ble_eq_true rfl) ⟨Nat.zero_le _, Nat.zero_le _⟩ dL_plan_89 (fun H locs G => ?_)
              obtain ⟨Z, hT, G⟩ : ∃ Z2 : xV, TI 13 V Z2 ∧ xG D sh ad A s.heap Z2 H locs := ⟨_, hT.prm _ _ _ _, G⟩
              refine lv_istore_n (lv' := [(3, .int (pQ V nc k)), (0, .ref (ad 0)), (1, .int x), (2, .int (nI k))]) hx hb dL_plan_92 rfl hl (by decide) rfl (fun ls hl => ?_)
              refine lv_iload_n hx hb dL_plan_93 rfl (lv_at hl 0 rfl) ?_
              refine lv_aload_n hx hb dL_plan_94 rfl (lv_at hl 1 rfl) ?_
              refine lv_iload_n hx hb dL_plan_95 rfl (lv_at hl 3 rfl) ?_
              refine x_callVi (rest := [.int (pQ V nc k)]) B G ((t_fld (D := D) l DL hI (hT.ts (Or.inl rfl)) (k := k) (by omega)).1) (cwV 1 B.1.2.2.2.2 gL_plan_X2_endOf rfl rfl rfl (by decide +kernel) ⟨Nat.le_of_ble_eq_true rfl, Nat.le_of_ble_eq_true rfl⟩) (d_recv B G Dl) rfl hl.1 rfl (Nat.le_of_ble_eq_true rfl) ⟨Nat.zero_le _, Nat.zero_le _⟩ dL_plan_96 (fun H locs G => ?_)
              refine lv_icmp_ge (tgt := 122) hx hb dL_plan_99 (by decide) (fun c_99 => ?_) (fun c_99 => ?_)
              · exact False.elim (absurd (pQ_f hI ht (show k < nb by omega)).1 (i_nlt.mpr c_99))
              · skip
                refine lv_iload_n hx hb dL_plan_102 rfl (lv_at hl 0 rfl) ?_
                refine lv_if_lt (tgt := 124) hx hb dL_plan_103 (by decide) (fun c_103 => ?_) (fun c_103 => ?_)
                · skip
                  refine lv_iinc (v := nI (k + 1)) (lv' := [(2, .int (nI (k + 1))), (3, .int (pQ V nc k)), (0, .ref (ad 0)), (1, .int x)]) hx hb dL_plan_124 hl (k := 3) rfl (nI_add k 1) (by decide) rfl (fun ls hl => ?_)
                  refine lv_goto (tgt := 79) hx hb dL_plan_127 (by decide) ?_
                  have hl := lv_sub (l' := [(0, .ref (ad 0)), (1, .int x), (2, .int (nI (k + 1)))]) hl [2, 3, 0] rfl
                  exact ih_79 (k + 1) Z (by omega) (by omega) hT _ _ _ G hl
                · skip
                  refine lv_iload_n hx hb dL_plan_106 rfl (lv_at hl 0 rfl) ?_
                  refine lv_aload_n hx hb dL_plan_107 rfl (lv_at hl 1 rfl) ?_
                  refine x_callVi (rest := [.int (pQ V nc k)]) B G (t_clock l DL hI (hT.ts (Or.inl rfl))) (cwV 0 B.1.2.2.2.2 gL_plan_X2_clock rfl rfl rfl (by decide +kernel) ⟨Nat.le_of_ble_eq_true rfl, Nat.le_of_ble_eq_true rfl⟩) (d_recv B G Dl) rfl hl.1 rfl (Nat.le_of_ble_eq_true rfl) ⟨Nat.zero_le _, Nat.zero_le _⟩ dL_plan_108 (fun H locs G => ?_)
                  refine lv_icmp_lt (tgt := 122) hx hb dL_plan_111 (by decide) (fun c_111 => ?_) (fun c_111 => ?_)
                  · exact False.elim (((pQ_f hI ht (show k < nb by omega)).2 c_103).1 c_111)
                  · skip
                    refine lv_aload_n hx hb dL_plan_114 rfl (lv_at hl 1 rfl) ?_
                    refine lv_iload_n hx hb dL_plan_115 rfl (lv_at hl 3 rfl) ?_
                    refine x_callVi (rest := []) B G ((t_fld (D := D) l DL hI (hT.ts (Or.inl rfl)) (k := k) (by omega)).2.2.2.2) (cwV 1 B.1.2.2.2.2 gL_plan_X2_holders rfl rfl rfl (by decide +kernel) ⟨Nat.le_of_ble_eq_true rfl, Nat.le_of_ble_eq_true rfl⟩) (d_recv B G Dl) rfl hl.1 rfl (Nat.le_of_ble_eq_true rfl) ⟨Nat.zero_le _, Nat.zero_le _⟩ dL_plan_116 (fun H locs G => ?_)
                    refine lv_if_ne (tgt := 124) hx hb dL_plan_119 (by decide) (fun c_119 => ?_) (fun c_119 => ?_)
                    · skip
                      refine lv_iinc (v := nI (k + 1)) (lv' := [(2, .int (nI (k + 1))), (3, .int (pQ V nc k)), (0, .ref (ad 0)), (1, .int x)]) hx hb dL_plan_124 hl (k := 3) rfl (nI_add k 1) (by decide) rfl (fun ls hl => ?_)
                      refine lv_goto (tgt := 79) hx hb dL_plan_127 (by decide) ?_
                      have hl := lv_sub (l' := [(0, .ref (ad 0)), (1, .int x), (2, .int (nI (k + 1)))]) hl [2, 3, 0] rfl
                      exact ih_79 (k + 1) Z (by omega) (by omega) hT _ _ _ G hl
                    · exact False.elim (((pQ_f hI ht (show k < nb by omega)).2 c_103).2 c_119)
        have hl := lv_sub (l' := [(0, .ref (ad 0)), (1, .int x), (2, .int 0)]) hl [1, 2, 0] rfl
        have hl := lv_cast hl (congrArg (fun z : Int32 => ([(0, .ref (ad 0)), (1, .int x), (2, .int z)] : List (Nat × Value))) (show 0 = (nI 0) from rfl))
        exact loop_79 (nb + 1) 0 Z (by omega) (by omega) hT _ _ _ G hl
      · skip
        have c_5 : ¬ (8 ≤ n) := fun h9 => c_5 ((nI_leI (a := 8) (b := n) (by omega) (by omega)).mpr h9)
        refine lv_iload_n hx hb dL_plan_8 rfl (lv_at hl 1 rfl) ?_
        refine lv_iload_n hx hb dL_plan_9 rfl (lv_at hl 2 rfl) ?_
        refine lv_ishr hx hb dL_plan_10 ?_
        refine lv_bipush (v := 8) hx hb dL_plan_11 (by decide) ?_
        refine x_callSi (rest := []) B G (c_L_low l B.2.2.2.2.1 Z (x >>> ((nI n) &&& 31)) 8 (by decide) (by decide)) (va_cwS 2 B.1.2.2.2.2 gL_plan_L_low rfl rfl rfl (by decide +kernel) ⟨Nat.le_of_ble_eq_true rfl, Nat.le_of_ble_eq_true rfl⟩) rfl hl.1 rfl (Nat.le_of_ble_eq_true rfl) ⟨Nat.zero_le _, Nat.zero_le _⟩ dL_plan_13 (fun H locs G => ?_)
        have hd8 : lowN (x >>> (nI n &&& 31)) % 8 < 8 := Nat.mod_lt _ (by decide)
        refine lv_istore_n (lv' := [(3, .int (nI (lowN (x >>> ((nI n) &&& 31)) % 8))), (0, .ref (ad 0)), (1, .int x), (2, .int (nI n))]) hx hb dL_plan_16 rfl hl (by decide) rfl (fun ls hl => ?_)
        refine lv_aload_n hx hb dL_plan_17 rfl (lv_at hl 1 rfl) ?_
        refine lv_iload_n hx hb dL_plan_18 rfl (lv_at hl 3 rfl) ?_
        refine lv_iload_n hx hb dL_plan_19 rfl (lv_at hl 0 rfl) ?_
        refine x_callVi (rest := []) B G (t_arrival l DL hI (hT.ts (Or.inl rfl)) (n := n) (d := lowN (x >>> ((nI n) &&& 31)) % 8) (by omega) (by first | exact hd8 | omega)) (cwV 2 B.1.2.2.2.2 gL_plan_X2_arrival rfl rfl rfl (by decide +kernel) ⟨Nat.le_of_ble_eq_true rfl, Nat.le_of_ble_eq_true rfl⟩) (d_recv B G Dl) rfl hl.1 rfl (Nat.le_of_ble_eq_true rfl) ⟨Nat.zero_le _, Nat.zero_le _⟩ dL_plan_20 (fun H locs G => ?_)
        obtain ⟨Z, hT, G⟩ : ∃ Z2 : xV, TI 13 V Z2 ∧ xG D sh ad A s.heap Z2 H locs := ⟨_, hT.fin _ _ _ _, G⟩
        refine lv_istore (lv' := [(4, .int (aQ V nc n (lowN (x >>> ((nI n) &&& 31)) % 8))), (3, .int (nI (lowN (x >>> ((nI n) &&& 31)) % 8))), (0, .ref (ad 0)), (1, .int x), (2, .int (nI n))]) hx hb dL_plan_23 hl (by decide) rfl (fun ls hl => ?_)
        refine lv_iload hx hb dL_plan_25 (lv_at hl 0 rfl) ?_
        refine lv_aload_n hx hb dL_plan_27 rfl (lv_at hl 2 rfl) ?_
        refine lv_iload_n hx hb dL_plan_28 rfl (lv_at hl 4 rfl) ?_
        refine lv_iload_n hx hb dL_plan_29 rfl (lv_at hl 1 rfl) ?_
        refine x_callVi (rest := [.int (aQ V nc n (lowN (x >>> ((nI n) &&& 31)) % 8))]) B G (t_rounds l DL hI (hT.ts (Or.inl rfl)) (n := n) (d := lowN (x >>> ((nI n) &&& 31)) % 8) (by omega) (by first | exact hd8 | omega)) (cwV 2 B.1.2.2.2.2 gL_plan_X2_arrivalByRounds rfl rfl rfl (by decide +kernel) ⟨Nat.le_of_ble_eq_true rfl, Nat.le_of_ble_eq_true rfl⟩) (d_recv B G Dl) rfl hl.1 rfl (Nat.le_of_ble_eq_true rfl) ⟨Nat.zero_le _, Nat.zero_le _⟩ dL_plan_30 (fun H locs G => ?_)
        obtain ⟨Z, hT, G⟩ : ∃ Z2 : xV, TI 13 V Z2 ∧ xG D sh ad A s.heap Z2 H locs := ⟨_, hT.all _ _ _, G⟩
        refine lv_icmp_ne (tgt := 69) hx hb dL_plan_33 (by decide) (fun c_33 => ?_) (fun c_33 => ?_)
        · exact False.elim (c_33 rfl)
        · skip
          refine lv_iload hx hb dL_plan_36 (lv_at hl 0 rfl) ?_
          refine lv_iconst (v := (-1)) hx hb dL_plan_38 (by decide) ?_
          refine lv_icmp_lt (tgt := 69) hx hb dL_plan_39 (by decide) (fun c_39 => ?_) (fun c_39 => ?_)
          · exact False.elim (aQ_1 hI ht hd8 c_39)
          · skip
            refine lv_iload hx hb dL_plan_42 (lv_at hl 0 rfl) ?_
            refine lv_if_lt (tgt := 56) hx hb dL_plan_44 (by decide) (fun c_44 => ?_) (fun c_44 => ?_)
            · skip
              refine lv_aload_n hx hb dL_plan_56 rfl (lv_at hl 2 rfl) ?_
              refine lv_iload_n hx hb dL_plan_57 rfl (lv_at hl 4 rfl) ?_
              refine lv_iload_n hx hb dL_plan_58 rfl (lv_at hl 4 rfl) ?_
              refine x_callVi (rest := []) B G (t_arrival l DL hI (hT.ts (Or.inl rfl)) (n := n) (d := n) (by omega) (by first | exact hd8 | omega)) (cwV 2 B.1.2.2.2.2 gL_plan_X2_arrival rfl rfl rfl (by decide +kernel) ⟨Nat.le_of_ble_eq_true rfl, Nat.le_of_ble_eq_true rfl⟩) (d_recv B G Dl) rfl hl.1 rfl (Nat.le_of_ble_eq_true rfl) ⟨Nat.zero_le _, Nat.zero_le _⟩ dL_plan_59 (fun H locs G => ?_)
              obtain ⟨Z, hT, G⟩ : ∃ Z2 : xV, TI 13 V Z2 ∧ xG D sh ad A s.heap Z2 H locs := ⟨_, hT.fin _ _ _ _, G⟩
              refine lv_aload_n hx hb dL_plan_62 rfl (lv_at hl 2 rfl) ?_
              refine x_callVi (rest := [.int (aQ V nc n n)]) B G (t_clock l DL hI (hT.ts (Or.inl rfl))) (cwV 0 B.1.2.2.2.2 gL_plan_X2_clock rfl rfl rfl (by decide +kernel) ⟨Nat.le_of_ble_eq_true rfl, Nat.le_of_ble_eq_true rfl⟩) (d_recv B G Dl) rfl hl.1 rfl (Nat.le_of_ble_eq_true rfl) ⟨Nat.zero_le _, Nat.zero_le _⟩ dL_plan_63 (fun H locs G => ?_)
              refine lv_icmp_eq (tgt := 71) hx hb dL_plan_66 (by decide) (fun c_66 => ?_) (fun c_66 => ?_)
              · skip
                refine lv_iinc (v := nI (n + 1)) (lv' := [(2, .int (nI (n + 1))), (4, .int (aQ V nc n (lowN (x >>> ((nI n) &&& 31)) % 8))), (3, .int (nI (lowN (x >>> ((nI n) &&& 31)) % 8))), (0, .ref (ad 0)), (1, .int x)]) hx hb dL_plan_71 hl (k := 4) rfl (nI_add n 1) (by decide) rfl (fun ls hl => ?_)
                refine lv_goto (tgt := 2) hx hb dL_plan_74 (by decide) ?_
                have hl := lv_sub (l' := [(0, .ref (ad 0)), (1, .int x), (2, .int (nI (n + 1)))]) hl [3, 4, 0] rfl
                exact ih_2 (n + 1) Z (by omega) (by omega) hT _ _ _ G hl
              · exact False.elim (c_66 (aQ_s hI ht (by omega)))
            · skip
              refine lv_iload hx hb dL_plan_47 (lv_at hl 0 rfl) ?_
              refine lv_aload_n hx hb dL_plan_49 rfl (lv_at hl 2 rfl) ?_
              refine x_callVi (rest := [.int (aQ V nc n (lowN (x >>> ((nI n) &&& 31)) % 8))]) B G (t_clock l DL hI (hT.ts (Or.inl rfl))) (cwV 0 B.1.2.2.2.2 gL_plan_X2_clock rfl rfl rfl (by decide +kernel) ⟨Nat.le_of_ble_eq_true rfl, Nat.le_of_ble_eq_true rfl⟩) (d_recv B G Dl) rfl hl.1 rfl (Nat.le_of_ble_eq_true rfl) ⟨Nat.zero_le _, Nat.zero_le _⟩ dL_plan_50 (fun H locs G => ?_)
              refine lv_icmp_lt (tgt := 69) hx hb dL_plan_53 (by decide) (fun c_53 => ?_) (fun c_53 => ?_)
              · exact False.elim (aQ_2 hI hd8 c_44 c_53)
              · skip
                refine lv_aload_n hx hb dL_plan_56 rfl (lv_at hl 2 rfl) ?_
                refine lv_iload_n hx hb dL_plan_57 rfl (lv_at hl 4 rfl) ?_
                refine lv_iload_n hx hb dL_plan_58 rfl (lv_at hl 4 rfl) ?_
                refine x_callVi (rest := []) B G (t_arrival l DL hI (hT.ts (Or.inl rfl)) (n := n) (d := n) (by omega) (by first | exact hd8 | omega)) (cwV 2 B.1.2.2.2.2 gL_plan_X2_arrival rfl rfl rfl (by decide +kernel) ⟨Nat.le_of_ble_eq_true rfl, Nat.le_of_ble_eq_true rfl⟩) (d_recv B G Dl) rfl hl.1 rfl (Nat.le_of_ble_eq_true rfl) ⟨Nat.zero_le _, Nat.zero_le _⟩ dL_plan_59 (fun H locs G => ?_)
                obtain ⟨Z, hT, G⟩ : ∃ Z2 : xV, TI 13 V Z2 ∧ xG D sh ad A s.heap Z2 H locs := ⟨_, hT.fin _ _ _ _, G⟩
                refine lv_aload_n hx hb dL_plan_62 rfl (lv_at hl 2 rfl) ?_
                refine x_callVi (rest := [.int (aQ V nc n n)]) B G (t_clock l DL hI (hT.ts (Or.inl rfl))) (cwV 0 B.1.2.2.2.2 gL_plan_X2_clock rfl rfl rfl (by decide +kernel) ⟨Nat.le_of_ble_eq_true rfl, Nat.le_of_ble_eq_true rfl⟩) (d_recv B G Dl) rfl hl.1 rfl (Nat.le_of_ble_eq_true rfl) ⟨Nat.zero_le _, Nat.zero_le _⟩ dL_plan_63 (fun H locs G => ?_)
                refine lv_icmp_eq (tgt := 71) hx hb dL_plan_66 (by decide) (fun c_66 => ?_) (fun c_66 => ?_)
                · skip
                  refine lv_iinc (v := nI (n + 1)) (lv' := [(2, .int (nI (n + 1))), (4, .int (aQ V nc n (lowN (x >>> ((nI n) &&& 31)) % 8))), (3, .int (nI (lowN (x >>> ((nI n) &&& 31)) % 8))), (0, .ref (ad 0)), (1, .int x)]) hx hb dL_plan_71 hl (k := 4) rfl (nI_add n 1) (by decide) rfl (fun ls hl => ?_)
                  refine lv_goto (tgt := 2) hx hb dL_plan_74 (by decide) ?_
                  have hl := lv_sub (l' := [(0, .ref (ad 0)), (1, .int x), (2, .int (nI (n + 1)))]) hl [3, 4, 0] rfl
                  exact ih_2 (n + 1) Z (by omega) (by omega) hT _ _ _ G hl
                · exact False.elim (c_66 (aQ_s hI ht (by omega)))
  have hl := lv_sub (l' := [(0, .ref (ad 0)), (1, .int x), (2, .int 0)]) hl [1, 2, 0] rfl
  have hl := lv_cast hl (congrArg (fun z : Int32 => ([(0, .ref (ad 0)), (1, .int x), (2, .int z)] : List (Nat × Value))) (show 0 = (nI 0) from rfl))
  exact loop_2 (8 + 1) 0 V (by omega) (by omega) hT _ _ _ G hl
