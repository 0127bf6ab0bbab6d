/-! TELL: what stands in its row -/
abbrev rmLw (c s : Nat) : Room := { frames := 20, cells := c, slots := s, locals := 1200 }
def TI (i : Nat) (V Z : xV) : Prop := ∀ j, j ≠ 13 → j ≠ 14 → j ≠ i → Z j = V j
theorem TI.ts {i : Nat} {V Z : xV} (h : TI i V Z) (hi : i = 13 ∨ i = 18 ∨ i = 19) : TS V Z := fun j a b c e => h j a b (by omega)
theorem TI.refl (i : Nat) (V : xV) : TI i V V := fun _ _ _ _ => rfl
theorem TI.row {i : Nat} {V Z : xV} (h : TI i V Z) (k : Nat) (x : Int32) : TI i V (xu Z i k x) := fun j a b c => by rw [xu_ne _ _ _ c]; exact h j a b c
theorem TI.fin {i : Nat} {V Z : xV} (h : TI i V Z) (n d nc : Nat) (t : Int32) : TI i V (pFin Z n d nc t) := fun j a b c => by rw [pFin_o _ _ _ _ _ a b]; exact h j a b c
theorem TI.all {i : Nat} {V Z : xV} (h : TI i V Z) (n nc : Nat) (t : Int32) : TI i V (pAll Z n nc t) := fun j a b c => by rw [pAll_o _ _ _ _ a b]; exact h j a b c
theorem TI.prm {i : Nat} {V Z : xV} (h : TI i V Z) (b d nc n : Nat) : TI i V (cPr Z b d nc n).2 := fun j x y c => by rw [cPr_o _ _ _ _ _ x y]; exact h j x y c
def tIn (V : xV) (n : Nat) (r : Nat → Int32) : Nat → Nat → Int32
  | 0 => r
  | k + 1 => upd (tIn V n r k) (34 + n) (31 * tIn V n r k (34 + n) + 2 * V (20 + 4 * k + 1) n + (if V (20 + 4 * k + 3) n = 0 then 0 else 1))
def tHd (V : xV) (nb nc n : Nat) (r : Nat → Int32) : Nat → Int32 := upd (upd (upd (upd r (2 + n) (nI (cntP (cHas V n) nb))) (10 + n) (V 2 n)) (18 + n) (V 3 n)) (26 + n) (aQ V nc n 0 + 31 * aQ V nc n 3)
def tOut (V : xV) (nb nc : Nat) (r : Nat → Int32) : Nat → Nat → Int32
  | 0 => r
  | n + 1 => tIn V n (tHd V nb nc n (tOut V nb nc r n)) nb
def tU (f : Nat → Int32) (j : Nat) (x : Int32) : Nat → Int32 := upd f j (31 * f j + x)
def tLst (V : xV) (nc : Nat) (r : Nat → Int32) : Nat → Nat → Int32
  | 0 => r
  | k + 1 => tU (tU (tU (tU (tU (tLst V nc r k) 42 (V (20 + 4 * k) 7)) 43 (V (20 + 4 * k) 8)) 44 (V (20 + 4 * k) 9)) 45 (V (20 + 4 * k) 3)) 46 (pQ V nc k)
def tR0 (V : xV) (nb : Nat) : Nat → Int32 := upd (upd (fun _ => 0) 0 (V 0 0)) 1 (nI nb)
def tellR (V : xV) (nb nc : Nat) : Nat → Int32 := tLst V nc (tOut V nb nc (tR0 V nb) 8) nb
theorem upd_ne {f : Nat → Int32} {k j : Nat} {x : Int32} (h : j ≠ k) : upd f k x j = f j := if_neg h
theorem tIn_1 (V : xV) (n : Nat) (r : Nat → Int32) (k : Nat) {j : Nat} (hj : j < 2) : tIn V n r k j = r j := by
  induction k with
  | zero => rfl
  | succ k ih =>
    unfold tIn
    rw [upd_ne (by omega)]; exact ih
theorem tOut_1 (V : xV) (nb nc : Nat) (r : Nat → Int32) (n : Nat) {j : Nat} (hj : j < 2) : tOut V nb nc r n j = r j := by
  induction n with
  | zero => rfl
  | succ n ih =>
    unfold tOut
    rw [tIn_1 _ _ _ _ hj]
    unfold tHd
    rw [upd_ne (by omega), upd_ne (by omega), upd_ne (by omega), upd_ne (by omega)]; exact ih
theorem tLst_1 (V : xV) (nc : Nat) (r : Nat → Int32) (k : Nat) {j : Nat} (hj : j < 2) : tLst V nc r k j = r j := by
  induction k with
  | zero => rfl
  | succ k ih =>
    unfold tLst tU
    rw [upd_ne (by omega), upd_ne (by omega), upd_ne (by omega), upd_ne (by omega), upd_ne (by omega)]; exact ih
/-- the law's own rows lie apart from the class's world -/
theorem xDw.law {sh sh' : xS} {ad ad' : Nat → Nat} {cI cZ cO : ClassId} {tys : List (ClassId × FieldType)} {e0 nb : Nat} {od : Nat → Nat} (h : xDw sh ad cI cZ cO tys e0 nb od) (ks : ∀ j, j < 16 ∨ 20 ≤ j → sh' j = sh j) (ka : ∀ j, j < 16 ∨ 20 ≤ j → ad' j = ad j) (hI : xI sh' ad') : xDw sh' ad' cI cZ cO tys e0 nb od := by
  obtain ⟨g1, g2, g3, g4, g5, g6, g7, g8, g9, g10, g11⟩ := h
  exact ⟨g1.tr (fun j hj => ks j (by omega)) (fun j hj => ka j (by omega)), g2.tr (fun j hj => ks j (by omega)) (fun j hj => ka j (by omega)), g3.tr (ks 4 (by omega)) (ks 7 (by omega)) (ka 7 (by omega)) (fun j hj => ka _ (by omega)), g4.tr (ks 5 (by omega)) (ks 8 (by omega)) (ka 8 (by omega)) (fun j hj => ka _ (by omega)), fun k hk => (g5 k hk).tr (ks _ (by omega)) (ks _ (by omega)) (ks _ (by omega)) (ks _ (by omega)) (ka _ (by omega)) (ka _ (by omega)) (ka _ (by omega)), g6, ⟨g7.1, g7.2.1, hI⟩, g8, g9, (ks 15 (by omega)).trans g10, fun i hi => (ks i (by omega)).trans (g11 i hi)⟩

set_option maxHeartbeats 4000000 in
set_option maxRecDepth 100000 in
theorem tell_body {p : Program} {l : Launch} {e : Env} {s : State} {m : MethodId} {args : Array Value} {below : List Frame} {meth : Method} {c : Code} {A : Nat → Prop} {H : Heap} {locs : List Loc} {ls : Array Slot} {Q : State → Prop} {D : va_G} {sh : xS} {ad : Nat → Nat} {cI cZ cO : ClassId} {tys : List (ClassId × FieldType)} {t nb nc : Nat} {od S : Nat → Nat} (B : xB p s m args meth c cL_tell 4 (some (.array .int)) wsL_tell RL D sh ad A tys) (DL : xDl sh ad cI cZ cO tys nb od) {V Z : xV} (hI : INV t nb nc od S V) {i : Nat} (hi18 : i = 13 ∨ i = 18 ∨ i = 19) (hi : i = 18 ∨ i = 19) (si : sh i = some (fun f => .inl (cI, 64, .inl f))) (G : xG D sh ad A s.heap Z H locs) (hT : TI i V Z) (hr : Z i = fun _ => 0) (hl : lv_has ls 4 [(0, .ref (ad 0))])
    (cont : ∀ (Z : xV) (H : Heap) (locs : List Loc) (ls : Array Slot), TI i V Z → Z i = tellR V nb nc → xG D sh ad A s.heap Z H locs → W p l e (rmLw 1 64) s m args below meth c H locs 1 64 Q (F0 m 242 ls [.ref (ad i)])) : W p l e (rmLw 1 64) s m args below meth c H locs 1 64 Q (F0 m 4 ls [.ref (ad i)]) := by
  have hx := B.1.1
  have hb := B.1.2.1
  have Dl := DL.1
  have hT0 := DL.2.2.2.2.2.2.1.1
  have h40 := DL.2.2.2.2.2.2.2.2
  refine lv_astore_n (lv' := [(1, .ref (ad i)), (0, .ref (ad 0))]) hx hb dL_tell_4 rfl hl (by decide) rfl (fun ls hl => ?_)
  refine lv_aload_n hx hb dL_tell_5 rfl (lv_at hl 0 rfl) ?_
  refine lv_iconst (v := 0) hx hb dL_tell_6 (by decide) ?_
  refine lv_aload_n hx hb dL_tell_7 rfl (lv_at hl 1 rfl) ?_
  refine x_callVi (rest := [.int 0, .ref (ad i)]) B G (t_clock l DL hI (hT.ts hi18)) (cwV 0 B.1.2.2.2.2 gL_tell_X2_clock rfl rfl rfl (by decide +kernel) ⟨Nat.le_of_ble_eq_true rfl, Nat.le_of_ble_eq_true rfl⟩) (d_recv B G Dl) rfl hl.1 rfl (Nat.le_of_ble_eq_true rfl) ⟨Nat.le_refl _, Nat.le_refl _⟩ dL_tell_8 (fun H locs G => ?_)
  refine x_ast B G i si 0 hT0 0 (show 0 < 64 from by omega) rfl (by decide) dL_tell_11 (fun H locs G => ?_)
  obtain ⟨Z, hT, hr, G⟩ : ∃ Z2 : xV, TI i V Z2 ∧ Z2 i = upd (fun _ => 0) 0 (V 0 0) ∧ xG D sh ad A s.heap Z2 H locs := ⟨_, hT.row _ _, (xu_same _ _ _ _).trans (congrArg (fun z => upd z 0 (V 0 0)) hr), G⟩
  refine lv_aload_n hx hb dL_tell_12 rfl (lv_at hl 0 rfl) ?_
  refine lv_iconst (v := 1) hx hb dL_tell_13 (by decide) ?_
  refine lv_aload_n hx hb dL_tell_14 rfl (lv_at hl 1 rfl) ?_
  refine x_callVi (rest := [.int 1, .ref (ad i)]) B G (t_bundles l DL hI (hT.ts hi18)) (cwV 0 B.1.2.2.2.2 gL_tell_X2_bundles rfl rfl rfl (by decide +kernel) ⟨Nat.le_of_ble_eq_true rfl, Nat.le_of_ble_eq_true rfl⟩) (d_recv B G Dl) rfl hl.1 rfl (Nat.le_of_ble_eq_true rfl) ⟨Nat.le_refl _, Nat.le_refl _⟩ dL_tell_15 (fun H locs G => ?_)
  refine x_ast B G i si 0 hT0 1 (show 1 < 64 from by omega) rfl (by decide) dL_tell_18 (fun H locs G => ?_)
  obtain ⟨Z, hT, hr, G⟩ : ∃ Z2 : xV, TI i V Z2 ∧ Z2 i = upd (upd (fun _ => 0) 0 (V 0 0)) 1 (nI nb) ∧ xG D sh ad A s.heap Z2 H locs := ⟨_, hT.row _ _, (xu_same _ _ _ _).trans (congrArg (fun z => upd z 1 (nI nb)) hr), G⟩
  refine lv_iconst (v := 0) hx hb dL_tell_19 (by decide) ?_
  refine lv_istore_n (lv' := [(2, .int 0), (1, .ref (ad i)), (0, .ref (ad 0))]) hx hb dL_tell_20 rfl hl (by decide) rfl (fun ls hl => ?_)
  have loop_21 : ∀ (f n : Nat) (Z : xV), n ≤ 8 → 8 < n + f → (TI i V Z) → (Z i = tOut V nb nc (tR0 V nb) n) → ∀ (H : Heap) (locs : List Loc) (ls : Array Slot), xG D sh ad A s.heap Z H locs → lv_has ls 4 [(0, .ref (ad 0)), (1, .ref (ad i)), (2, .int (nI n))] → W p l e (rmLw 1 64) s m args below meth c H locs (1) (64) Q (F0 m 21 ls []) := by
    intro f
    induction f with
    | zero => intro n Z h1 h2; exact absurd h2 (by omega)
    | succ f ih_21 =>
      intro n Z hi hf hT hr H locs ls G hl
      refine lv_iload_n hx hb dL_tell_21 rfl (lv_at hl 2 rfl) ?_
      refine lv_bipush (v := 8) hx hb dL_tell_22 (by decide) ?_
      refine lv_icmp_ge (tgt := 141) hx hb dL_tell_24 (by decide) (fun c_24 => ?_) (fun c_24 => ?_)
      · skip
        have c_24 : 8 ≤ n := (nI_leI (a := 8) (b := n) (by omega) (by omega)).mp c_24
        refine lv_iconst (v := 0) hx hb dL_tell_141 (by decide) ?_
        refine lv_istore_n (lv' := [(2, .int 0), (0, .ref (ad 0)), (1, .ref (ad i))]) hx hb dL_tell_142 rfl hl (by decide) rfl (fun ls hl => ?_)
        have loop_143 : ∀ (f k : Nat) (Z : xV), k ≤ nb → nb < k + f → (TI i V Z) → (Z i = tLst V nc (tOut V nb nc (tR0 V nb) 8) k) → ∀ (H : Heap) (locs : List Loc) (ls : Array Slot), xG D sh ad A s.heap Z H locs → lv_has ls 4 [(0, .ref (ad 0)), (1, .ref (ad i)), (2, .int (nI k))] → W p l e (rmLw 1 64) s m args below meth c H locs (1) (64) Q (F0 m 143 ls []) := by
          intro f
          induction f with
          | zero => intro k Z h1 h2; exact absurd h2 (by omega)
          | succ f ih_143 =>
            intro k Z hi hf hT hr H locs ls G hl
            refine lv_iload_n hx hb dL_tell_143 rfl (lv_at hl 2 rfl) ?_
            refine lv_aload_n hx hb dL_tell_144 rfl (lv_at hl 1 rfl) ?_
            refine lv_iconst (v := 1) hx hb dL_tell_145 (by decide) ?_
            refine x_ald B G i si 0 hT0 1 (show 1 < 64 from by omega) rfl (by decide) dL_tell_146 ?_
            refine x_top (show _ = nI nb from (congrFun hr 1).trans ((tLst_1 V nc _ k (by decide)).trans (tOut_1 V nb nc (tR0 V nb) 8 (by decide)))) ?_
            refine lv_icmp_ge (tgt := 241) hx hb dL_tell_147 (by decide) (fun c_147 => ?_) (fun c_147 => ?_)
            · skip
              have c_147 : nb ≤ k := (nI_leI (a := nb) (b := k) (by omega) (by omega)).mp c_147
              refine lv_aload_n hx hb dL_tell_241 rfl (lv_at hl 1 rfl) ?_
              exact cont _ _ _ _ hT (hr.trans (by rw [show k = nb by omega]; rfl)) G
            · skip
              have c_147 : ¬ (nb ≤ k) := fun h9 => c_147 ((nI_leI (a := nb) (b := k) (by omega) (by omega)).mpr h9)
              refine lv_aload_n hx hb dL_tell_150 rfl (lv_at hl 1 rfl) ?_
              refine lv_bipush (v := 42) hx hb dL_tell_151 (by decide) ?_
              refine lv_bipush (v := 31) hx hb dL_tell_153 (by decide) ?_
              refine lv_aload_n hx hb dL_tell_155 rfl (lv_at hl 1 rfl) ?_
              refine lv_bipush (v := 42) hx hb dL_tell_156 (by decide) ?_
              refine x_ald B G i si 0 hT0 42 (show 42 < 64 from by omega) rfl (by decide) dL_tell_158 ?_
              refine x_top (show _ = (tLst V nc (tOut V nb nc (tR0 V nb) 8) k) 42 from congrFun hr 42) ?_
              refine lv_imul hx hb dL_tell_159 ?_
              refine lv_aload_n hx hb dL_tell_160 rfl (lv_at hl 0 rfl) ?_
              refine lv_iload_n hx hb dL_tell_161 rfl (lv_at hl 2 rfl) ?_
              refine x_callVi (rest := [.int (31 * ((tLst V nc (tOut V nb nc (tR0 V nb) 8) k) 42)), .int 42, .ref (ad i)]) B G ((t_fld (D := D) l DL hI (hT.ts hi18) (k := k) (by omega)).2.2.2.1) (cwV 1 B.1.2.2.2.2 gL_tell_X2_custodian rfl rfl rfl (by decide +kernel) ⟨Nat.le_of_ble_eq_true rfl, Nat.le_of_ble_eq_true rfl⟩) (d_recv B G Dl) rfl hl.1 rfl (Nat.le_of_ble_eq_true rfl) ⟨Nat.le_refl _, Nat.le_refl _⟩ dL_tell_162 (fun H locs G => ?_)
              refine lv_iadd hx hb dL_tell_165 ?_
              refine x_ast B G i si 0 hT0 42 (show 42 < 64 from by omega) rfl (by decide) dL_tell_166 (fun H locs G => ?_)
              obtain ⟨Z, hT, hr, G⟩ : ∃ Z2 : xV, TI i V Z2 ∧ Z2 i = upd (tLst V nc (tOut V nb nc (tR0 V nb) 8) k) 42 ((31 * ((tLst V nc (tOut V nb nc (tR0 V nb) 8) k) 42)) + (V (20 + 4 * k) 7)) ∧ xG D sh ad A s.heap Z2 H locs := ⟨_, hT.row _ _, (xu_same _ _ _ _).trans (congrArg (fun z => upd z 42 ((31 * ((tLst V nc (tOut V nb nc (tR0 V nb) 8) k) 42)) + (V (20 + 4 * k) 7))) hr), G⟩
              refine lv_aload_n hx hb dL_tell_167 rfl (lv_at hl 1 rfl) ?_
              refine lv_bipush (v := 43) hx hb dL_tell_168 (by decide) ?_
              refine lv_bipush (v := 31) hx hb dL_tell_170 (by decide) ?_
              refine lv_aload_n hx hb dL_tell_172 rfl (lv_at hl 1 rfl) ?_
              refine lv_bipush (v := 43) hx hb dL_tell_173 (by decide) ?_
              refine x_ald B G i si 0 hT0 43 (show 43 < 64 from by omega) rfl (by decide) dL_tell_175 ?_
              refine x_top (show _ = (upd (tLst V nc (tOut V nb nc (tR0 V nb) 8) k) 42 ((31 * ((tLst V nc (tOut V nb nc (tR0 V nb) 8) k) 42)) + (V (20 + 4 * k) 7))) 43 from congrFun hr 43) ?_
              refine lv_imul hx hb dL_tell_176 ?_
              refine lv_aload_n hx hb dL_tell_177 rfl (lv_at hl 0 rfl) ?_
              refine lv_iload_n hx hb dL_tell_178 rfl (lv_at hl 2 rfl) ?_
              refine x_callVi (rest := [.int (31 * ((upd (tLst V nc (tOut V nb nc (tR0 V nb) 8) k) 42 ((31 * ((tLst V nc (tOut V nb nc (tR0 V nb) 8) k) 42)) + (V (20 + 4 * k) 7))) 43)), .int 43, .ref (ad i)]) B G ((t_fld (D := D) l DL hI (hT.ts hi18) (k := k) (by omega)).2.1) (cwV 1 B.1.2.2.2.2 gL_tell_X2_deliveredAt rfl rfl rfl (by decide +kernel) ⟨Nat.le_of_ble_eq_true rfl, Nat.le_of_ble_eq_true rfl⟩) (d_recv B G Dl) rfl hl.1 rfl (Nat.le_of_ble_eq_true rfl) ⟨Nat.le_refl _, Nat.le_refl _⟩ dL_tell_179 (fun H locs G => ?_)
              refine lv_iadd hx hb dL_tell_182 ?_
              refine x_ast B G i si 0 hT0 43 (show 43 < 64 from by omega) rfl (by decide) dL_tell_183 (fun H locs G => ?_)
              obtain ⟨Z, hT, hr, G⟩ : ∃ Z2 : xV, TI i V Z2 ∧ Z2 i = upd (upd (tLst V nc (tOut V nb nc (tR0 V nb) 8) k) 42 ((31 * ((tLst V nc (tOut V nb nc (tR0 V nb) 8) k) 42)) + (V (20 + 4 * k) 7))) 43 ((31 * ((upd (tLst V nc (tOut V nb nc (tR0 V nb) 8) k) 42 ((31 * ((tLst V nc (tOut V nb nc (tR0 V nb) 8) k) 42)) + (V (20 + 4 * k) 7))) 43)) + (V (20 + 4 * k) 8)) ∧ xG D sh ad A s.heap Z2 H locs := ⟨_, hT.row _ _, (xu_same _ _ _ _).trans (congrArg (fun z => upd z 43 ((31 * ((upd (tLst V nc (tOut V nb nc (tR0 V nb) 8) k) 42 ((31 * ((tLst V nc (tOut V nb nc (tR0 V nb) 8) k) 42)) + (V (20 + 4 * k) 7))) 43)) + (V (20 + 4 * k) 8))) hr), G⟩
              refine lv_aload_n hx hb dL_tell_184 rfl (lv_at hl 1 rfl) ?_
              refine lv_bipush (v := 44) hx hb dL_tell_185 (by decide) ?_
              refine lv_bipush (v := 31) hx hb dL_tell_187 (by decide) ?_
              refine lv_aload_n hx hb dL_tell_189 rfl (lv_at hl 1 rfl) ?_
              refine lv_bipush (v := 44) hx hb dL_tell_190 (by decide) ?_
              refine x_ald B G i si 0 hT0 44 (show 44 < 64 from by omega) rfl (by decide) dL_tell_192 ?_
              refine x_top (show _ = (upd (upd (tLst V nc (tOut V nb nc (tR0 V nb) 8) k) 42 ((31 * ((tLst V nc (tOut V nb nc (tR0 V nb) 8) k) 42)) + (V (20 + 4 * k) 7))) 43 ((31 * ((upd (tLst V nc (tOut V nb nc (tR0 V nb) 8) k) 42 ((31 * ((tLst V nc (tOut V nb nc (tR0 V nb) 8) k) 42)) + (V (20 + 4 * k) 7))) 43)) + (V (20 + 4 * k) 8))) 44 from congrFun hr 44) ?_
              refine lv_imul hx hb dL_tell_193 ?_
              refine lv_aload_n hx hb dL_tell_194 rfl (lv_at hl 0 rfl) ?_
              refine lv_iload_n hx hb dL_tell_195 rfl (lv_at hl 2 rfl) ?_
              refine x_callVi (rest := [.int (31 * ((upd (upd (tLst V nc (tOut V nb nc (tR0 V nb) 8) k) 42 ((31 * ((tLst V nc (tOut V nb nc (tR0 V nb) 8) k) 42)) + (V (20 + 4 * k) 7))) 43 ((31 * ((upd (tLst V nc (tOut V nb nc (tR0 V nb) 8) k) 42 ((31 * ((tLst V nc (tOut V nb nc (tR0 V nb) 8) k) 42)) + (V (20 + 4 * k) 7))) 43)) + (V (20 + 4 * k) 8))) 44)), .int 44, .ref (ad i)]) B G ((t_fld (D := D) l DL hI (hT.ts hi18) (k := k) (by omega)).2.2.1) (cwV 1 B.1.2.2.2.2 gL_tell_X2_hops rfl rfl rfl (by decide +kernel) ⟨Nat.le_of_ble_eq_true rfl, Nat.le_of_ble_eq_true rfl⟩) (d_recv B G Dl) rfl hl.1 rfl (Nat.le_of_ble_eq_true rfl) ⟨Nat.le_refl _, Nat.le_refl _⟩ dL_tell_196 (fun H locs G => ?_)
              refine lv_iadd hx hb dL_tell_199 ?_
              refine x_ast B G i si 0 hT0 44 (show 44 < 64 from by omega) rfl (by decide) dL_tell_200 (fun H locs G => ?_)
              obtain ⟨Z, hT, hr, G⟩ : ∃ Z2 : xV, TI i V Z2 ∧ Z2 i = upd (upd (upd (tLst V nc (tOut V nb nc (tR0 V nb) 8) k) 42 ((31 * ((tLst V nc (tOut V nb nc (tR0 V nb) 8) k) 42)) + (V (20 + 4 * k) 7))) 43 ((31 * ((upd (tLst V nc (tOut V nb nc (tR0 V nb) 8) k) 42 ((31 * ((tLst V nc (tOut V nb nc (tR0 V nb) 8) k) 42)) + (V (20 + 4 * k) 7))) 43)) + (V (20 + 4 * k) 8))) 44 ((31 * ((upd (upd (tLst V nc (tOut V nb nc (tR0 V nb) 8) k) 42 ((31 * ((tLst V nc (tOut V nb nc (tR0 V nb) 8) k) 42)) + (V (20 + 4 * k) 7))) 43 ((31 * ((upd (tLst V nc (tOut V nb nc (tR0 V nb) 8) k) 42 ((31 * ((tLst V nc (tOut V nb nc (tR0 V nb) 8) k) 42)) + (V (20 + 4 * k) 7))) 43)) + (V (20 + 4 * k) 8))) 44)) + (V (20 + 4 * k) 9)) ∧ xG D sh ad A s.heap Z2 H locs := ⟨_, hT.row _ _, (xu_same _ _ _ _).trans (congrArg (fun z => upd z 44 ((31 * ((upd (upd (tLst V nc (tOut V nb nc (tR0 V nb) 8) k) 42 ((31 * ((tLst V nc (tOut V nb nc (tR0 V nb) 8) k) 42)) + (V (20 + 4 * k) 7))) 43 ((31 * ((upd (tLst V nc (tOut V nb nc (tR0 V nb) 8) k) 42 ((31 * ((tLst V nc (tOut V nb nc (tR0 V nb) 8) k) 42)) + (V (20 + 4 * k) 7))) 43)) + (V (20 + 4 * k) 8))) 44)) + (V (20 + 4 * k) 9))) hr), G⟩
              refine lv_aload_n hx hb dL_tell_201 rfl (lv_at hl 1 rfl) ?_
              refine lv_bipush (v := 45) hx hb dL_tell_202 (by decide) ?_
              refine lv_bipush (v := 31) hx hb dL_tell_204 (by decide) ?_
              refine lv_aload_n hx hb dL_tell_206 rfl (lv_at hl 1 rfl) ?_
              refine lv_bipush (v := 45) hx hb dL_tell_207 (by decide) ?_
              refine x_ald B G i si 0 hT0 45 (show 45 < 64 from by omega) rfl (by decide) dL_tell_209 ?_
              refine x_top (show _ = (upd (upd (upd (tLst V nc (tOut V nb nc (tR0 V nb) 8) k) 42 ((31 * ((tLst V nc (tOut V nb nc (tR0 V nb) 8) k) 42)) + (V (20 + 4 * k) 7))) 43 ((31 * ((upd (tLst V nc (tOut V nb nc (tR0 V nb) 8) k) 42 ((31 * ((tLst V nc (tOut V nb nc (tR0 V nb) 8) k) 42)) + (V (20 + 4 * k) 7))) 43)) + (V (20 + 4 * k) 8))) 44 ((31 * ((upd (upd (tLst V nc (tOut V nb nc (tR0 V nb) 8) k) 42 ((31 * ((tLst V nc (tOut V nb nc (tR0 V nb) 8) k) 42)) + (V (20 + 4 * k) 7))) 43 ((31 * ((upd (tLst V nc (tOut V nb nc (tR0 V nb) 8) k) 42 ((31 * ((tLst V nc (tOut V nb nc (tR0 V nb) 8) k) 42)) + (V (20 + 4 * k) 7))) 43)) + (V (20 + 4 * k) 8))) 44)) + (V (20 + 4 * k) 9))) 45 from congrFun hr 45) ?_
              refine lv_imul hx hb dL_tell_210 ?_
              refine lv_aload_n hx hb dL_tell_211 rfl (lv_at hl 0 rfl) ?_
              refine lv_iload_n hx hb dL_tell_212 rfl (lv_at hl 2 rfl) ?_
              refine x_callVi (rest := [.int (31 * ((upd (upd (upd (tLst V nc (tOut V nb nc (tR0 V nb) 8) k) 42 ((31 * ((tLst V nc (tOut V nb nc (tR0 V nb) 8) k) 42)) + (V (20 + 4 * k) 7))) 43 ((31 * ((upd (tLst V nc (tOut V nb nc (tR0 V nb) 8) k) 42 ((31 * ((tLst V nc (tOut V nb nc (tR0 V nb) 8) k) 42)) + (V (20 + 4 * k) 7))) 43)) + (V (20 + 4 * k) 8))) 44 ((31 * ((upd (upd (tLst V nc (tOut V nb nc (tR0 V nb) 8) k) 42 ((31 * ((tLst V nc (tOut V nb nc (tR0 V nb) 8) k) 42)) + (V (20 + 4 * k) 7))) 43 ((31 * ((upd (tLst V nc (tOut V nb nc (tR0 V nb) 8) k) 42 ((31 * ((tLst V nc (tOut V nb nc (tR0 V nb) 8) k) 42)) + (V (20 + 4 * k) 7))) 43)) + (V (20 + 4 * k) 8))) 44)) + (V (20 + 4 * k) 9))) 45)), .int 45, .ref (ad i)]) B G ((t_fld (D := D) l DL hI (hT.ts hi18) (k := k) (by omega)).1) (cwV 1 B.1.2.2.2.2 gL_tell_X2_endOf rfl rfl rfl (by decide +kernel) ⟨Nat.le_of_ble_eq_true rfl, Nat.le_of_ble_eq_true rfl⟩) (d_recv B G Dl) rfl hl.1 rfl (Nat.le_of_ble_eq_true rfl) ⟨Nat.le_refl _, Nat.le_refl _⟩ dL_tell_213 (fun H locs G => ?_)
              refine lv_iadd hx hb dL_tell_216 ?_
              refine x_ast B G i si 0 hT0 45 (show 45 < 64 from by omega) rfl (by decide) dL_tell_217 (fun H locs G => ?_)
              obtain ⟨Z, hT, hr, G⟩ : ∃ Z2 : xV, TI i V Z2 ∧ Z2 i = upd (upd (upd (upd (tLst V nc (tOut V nb nc (tR0 V nb) 8) k) 42 ((31 * ((tLst V nc (tOut V nb nc (tR0 V nb) 8) k) 42)) + (V (20 + 4 * k) 7))) 43 ((31 * ((upd (tLst V nc (tOut V nb nc (tR0 V nb) 8) k) 42 ((31 * ((tLst V nc (tOut V nb nc (tR0 V nb) 8) k) 42)) + (V (20 + 4 * k) 7))) 43)) + (V (20 + 4 * k) 8))) 44 ((31 * ((upd (upd (tLst V nc (tOut V nb nc (tR0 V nb) 8) k) 42 ((31 * ((tLst V nc (tOut V nb nc (tR0 V nb) 8) k) 42)) + (V (20 + 4 * k) 7))) 43 ((31 * ((upd (tLst V nc (tOut V nb nc (tR0 V nb) 8) k) 42 ((31 * ((tLst V nc (tOut V nb nc (tR0 V nb) 8) k) 42)) + (V (20 + 4 * k) 7))) 43)) + (V (20 + 4 * k) 8))) 44)) + (V (20 + 4 * k) 9))) 45 ((31 * ((upd (upd (upd (tLst V nc (tOut V nb nc (tR0 V nb) 8) k) 42 ((31 * ((tLst V nc (tOut V nb nc (tR0 V nb) 8) k) 42)) + (V (20 + 4 * k) 7))) 43 ((31 * ((upd (tLst V nc (tOut V nb nc (tR0 V nb) 8) k) 42 ((31 * ((tLst V nc (tOut V nb nc (tR0 V nb) 8) k) 42)) + (V (20 + 4 * k) 7))) 43)) + (V (20 + 4 * k) 8))) 44 ((31 * ((upd (upd (tLst V nc (tOut V nb nc (tR0 V nb) 8) k) 42 ((31 * ((tLst V nc (tOut V nb nc (tR0 V nb) 8) k) 42)) + (V (20 + 4 * k) 7))) 43 ((31 * ((upd (tLst V nc (tOut V nb nc (tR0 V nb) 8) k) 42 ((31 * ((tLst V nc (tOut V nb nc (tR0 V nb) 8) k) 42)) + (V (20 + 4 * k) 7))) 43)) + (V (20 + 4 * k) 8))) 44)) + (V (20 + 4 * k) 9))) 45)) + (V (20 + 4 * k) 3)) ∧ xG D sh ad A s.heap Z2 H locs := ⟨_, hT.row _ _, (xu_same _ _ _ _).trans (congrArg (fun z => upd z 45 ((31 * ((upd (upd (upd (tLst V nc (tOut V nb nc (tR0 V nb) 8) k) 42 ((31 * ((tLst V nc (tOut V nb nc (tR0 V nb) 8) k) 42)) + (V (20 + 4 * k) 7))) 43 ((31 * ((upd (tLst V nc (tOut V nb nc (tR0 V nb) 8) k) 42 ((31 * ((tLst V nc (tOut V nb nc (tR0 V nb) 8) k) 42)) + (V (20 + 4 * k) 7))) 43)) + (V (20 + 4 * k) 8))) 44 ((31 * ((upd (upd (tLst V nc (tOut V nb nc (tR0 V nb) 8) k) 42 ((31 * ((tLst V nc (tOut V nb nc (tR0 V nb) 8) k) 42)) + (V (20 + 4 * k) 7))) 43 ((31 * ((upd (tLst V nc (tOut V nb nc (tR0 V nb) 8) k) 42 ((31 * ((tLst V nc (tOut V nb nc (tR0 V nb) 8) k) 42)) + (V (20 + 4 * k) 7))) 43)) + (V (20 + 4 * k) 8))) 44)) + (V (20 + 4 * k) 9))) 45)) + (V (20 + 4 * k) 3))) hr), G⟩
              refine lv_aload_n hx hb dL_tell_218 rfl (lv_at hl 1 rfl) ?_
              refine lv_bipush (v := 46) hx hb dL_tell_219 (by decide) ?_
              refine lv_bipush (v := 31) hx hb dL_tell_221 (by decide) ?_
              refine lv_aload_n hx hb dL_tell_223 rfl (lv_at hl 1 rfl) ?_
              refine lv_bipush (v := 46) hx hb dL_tell_224 (by decide) ?_
              refine x_ald B G i si 0 hT0 46 (show 46 < 64 from by omega) rfl (by decide) dL_tell_226 ?_
              refine x_top (show _ = (upd (upd (upd (upd (tLst V nc (tOut V nb nc (tR0 V nb) 8) k) 42 ((31 * ((tLst V nc (tOut V nb nc (tR0 V nb) 8) k) 42)) + (V (20 + 4 * k) 7))) 43 ((31 * ((upd (tLst V nc (tOut V nb nc (tR0 V nb) 8) k) 42 ((31 * ((tLst V nc (tOut V nb nc (tR0 V nb) 8) k) 42)) + (V (20 + 4 * k) 7))) 43)) + (V (20 + 4 * k) 8))) 44 ((31 * ((upd (upd (tLst V nc (tOut V nb nc (tR0 V nb) 8) k) 42 ((31 * ((tLst V nc (tOut V nb nc (tR0 V nb) 8) k) 42)) + (V (20 + 4 * k) 7))) 43 ((31 * ((upd (tLst V nc (tOut V nb nc (tR0 V nb) 8) k) 42 ((31 * ((tLst V nc (tOut V nb nc (tR0 V nb) 8) k) 42)) + (V (20 + 4 * k) 7))) 43)) + (V (20 + 4 * k) 8))) 44)) + (V (20 + 4 * k) 9))) 45 ((31 * ((upd (upd (upd (tLst V nc (tOut V nb nc (tR0 V nb) 8) k) 42 ((31 * ((tLst V nc (tOut V nb nc (tR0 V nb) 8) k) 42)) + (V (20 + 4 * k) 7))) 43 ((31 * ((upd (tLst V nc (tOut V nb nc (tR0 V nb) 8) k) 42 ((31 * ((tLst V nc (tOut V nb nc (tR0 V nb) 8) k) 42)) + (V (20 + 4 * k) 7))) 43)) + (V (20 + 4 * k) 8))) 44 ((31 * ((upd (upd (tLst V nc (tOut V nb nc (tR0 V nb) 8) k) 42 ((31 * ((tLst V nc (tOut V nb nc (tR0 V nb) 8) k) 42)) + (V (20 + 4 * k) 7))) 43 ((31 * ((upd (tLst V nc (tOut V nb nc (tR0 V nb) 8) k) 42 ((31 * ((tLst V nc (tOut V nb nc (tR0 V nb) 8) k) 42)) + (V (20 + 4 * k) 7))) 43)) + (V (20 + 4 * k) 8))) 44)) + (V (20 + 4 * k) 9))) 45)) + (V (20 + 4 * k) 3))) 46 from congrFun hr 46) ?_
              refine lv_imul hx hb dL_tell_227 ?_
              refine lv_aload_n hx hb dL_tell_228 rfl (lv_at hl 0 rfl) ?_
              refine lv_iload_n hx hb dL_tell_229 rfl (lv_at hl 2 rfl) ?_
              refine x_callVi (rest := [.int (31 * ((upd (upd (upd (upd (tLst V nc (tOut V nb nc (tR0 V nb) 8) k) 42 ((31 * ((tLst V nc (tOut V nb nc (tR0 V nb) 8) k) 42)) + (V (20 + 4 * k) 7))) 43 ((31 * ((upd (tLst V nc (tOut V nb nc (tR0 V nb) 8) k) 42 ((31 * ((tLst V nc (tOut V nb nc (tR0 V nb) 8) k) 42)) + (V (20 + 4 * k) 7))) 43)) + (V (20 + 4 * k) 8))) 44 ((31 * ((upd (upd (tLst V nc (tOut V nb nc (tR0 V nb) 8) k) 42 ((31 * ((tLst V nc (tOut V nb nc (tR0 V nb) 8) k) 42)) + (V (20 + 4 * k) 7))) 43 ((31 * ((upd (tLst V nc (tOut V nb nc (tR0 V nb) 8) k) 42 ((31 * ((tLst V nc (tOut V nb nc (tR0 V nb) 8) k) 42)) + (V (20 + 4 * k) 7))) 43)) + (V (20 + 4 * k) 8))) 44)) + (V (20 + 4 * k) 9))) 45 ((31 * ((upd (upd (upd (tLst V nc (tOut V nb nc (tR0 V nb) 8) k) 42 ((31 * ((tLst V nc (tOut V nb nc (tR0 V nb) 8) k) 42)) + (V (20 + 4 * k) 7))) 43 ((31 * ((upd (tLst V nc (tOut V nb nc (tR0 V nb) 8) k) 42 ((31 * ((tLst V nc (tOut V nb nc (tR0 V nb) 8) k) 42)) + (V (20 + 4 * k) 7))) 43)) + (V (20 + 4 * k) 8))) 44 ((31 * ((upd (upd (tLst V nc (tOut V nb nc (tR0 V nb) 8) k) 42 ((31 * ((tLst V nc (tOut V nb nc (tR0 V nb) 8) k) 42)) + (V (20 + 4 * k) 7))) 43 ((31 * ((upd (tLst V nc (tOut V nb nc (tR0 V nb) 8) k) 42 ((31 * ((tLst V nc (tOut V nb nc (tR0 V nb) 8) k) 42)) + (V (20 + 4 * k) 7))) 43)) + (V (20 + 4 * k) 8))) 44)) + (V (20 + 4 * k) 9))) 45)) + (V (20 + 4 * k) 3))) 46)), .int 46, .ref (ad i)]) B G (t_promised l DL hI (hT.ts hi18) (k := k) (by omega)) (cwV 1 B.1.2.2.2.2 gL_tell_X2_promised rfl rfl rfl (by decide +kernel) ⟨Nat.le_of_ble_eq_true rfl, Nat.le_of_ble_eq_true rfl⟩) (d_recv B G Dl) rfl hl.1 rfl (Nat.le_of_ble_eq_true rfl) ⟨Nat.le_refl _, Nat.le_refl _⟩ dL_tell_230 (fun H locs G => ?_)
              obtain ⟨Z, hT, hr, G⟩ : ∃ Z2 : xV, TI i V Z2 ∧ Z2 i = upd (upd (upd (upd (tLst V nc (tOut V nb nc (tR0 V nb) 8) k) 42 ((31 * ((tLst V nc (tOut V nb nc (tR0 V nb) 8) k) 42)) + (V (20 + 4 * k) 7))) 43 ((31 * ((upd (tLst V nc (tOut V nb nc (tR0 V nb) 8) k) 42 ((31 * ((tLst V nc (tOut V nb nc (tR0 V nb) 8) k) 42)) + (V (20 + 4 * k) 7))) 43)) + (V (20 + 4 * k) 8))) 44 ((31 * ((upd (upd (tLst V nc (tOut V nb nc (tR0 V nb) 8) k) 42 ((31 * ((tLst V nc (tOut V nb nc (tR0 V nb) 8) k) 42)) + (V (20 + 4 * k) 7))) 43 ((31 * ((upd (tLst V nc (tOut V nb nc (tR0 V nb) 8) k) 42 ((31 * ((tLst V nc (tOut V nb nc (tR0 V nb) 8) k) 42)) + (V (20 + 4 * k) 7))) 43)) + (V (20 + 4 * k) 8))) 44)) + (V (20 + 4 * k) 9))) 45 ((31 * ((upd (upd (upd (tLst V nc (tOut V nb nc (tR0 V nb) 8) k) 42 ((31 * ((tLst V nc (tOut V nb nc (tR0 V nb) 8) k) 42)) + (V (20 + 4 * k) 7))) 43 ((31 * ((upd (tLst V nc (tOut V nb nc (tR0 V nb) 8) k) 42 ((31 * ((tLst V nc (tOut V nb nc (tR0 V nb) 8) k) 42)) + (V (20 + 4 * k) 7))) 43)) + (V (20 + 4 * k) 8))) 44 ((31 * ((upd (upd (tLst V nc (tOut V nb nc (tR0 V nb) 8) k) 42 ((31 * ((tLst V nc (tOut V nb nc (tR0 V nb) 8) k) 42)) + (V (20 + 4 * k) 7))) 43 ((31 * ((upd (tLst V nc (tOut V nb nc (tR0 V nb) 8) k) 42 ((31 * ((tLst V nc (tOut V nb nc (tR0 V nb) 8) k) 42)) + (V (20 + 4 * k) 7))) 43)) + (V (20 + 4 * k) 8))) 44)) + (V (20 + 4 * k) 9))) 45)) + (V (20 + 4 * k) 3)) ∧ xG D sh ad A s.heap Z2 H locs := ⟨_, hT.prm _ _ _ _, (cPr_o _ _ _ _ _ (by omega) (by omega)).trans hr, G⟩
              refine lv_iadd hx hb dL_tell_233 ?_
              refine x_ast B G i si 0 hT0 46 (show 46 < 64 from by omega) rfl (by decide) dL_tell_234 (fun H locs G => ?_)
              obtain ⟨Z, hT, hr, G⟩ : ∃ Z2 : xV, TI i V Z2 ∧ Z2 i = upd (upd (upd (upd (upd (tLst V nc (tOut V nb nc (tR0 V nb) 8) k) 42 ((31 * ((tLst V nc (tOut V nb nc (tR0 V nb) 8) k) 42)) + (V (20 + 4 * k) 7))) 43 ((31 * ((upd (tLst V nc (tOut V nb nc (tR0 V nb) 8) k) 42 ((31 * ((tLst V nc (tOut V nb nc (tR0 V nb) 8) k) 42)) + (V (20 + 4 * k) 7))) 43)) + (V (20 + 4 * k) 8))) 44 ((31 * ((upd (upd (tLst V nc (tOut V nb nc (tR0 V nb) 8) k) 42 ((31 * ((tLst V nc (tOut V nb nc (tR0 V nb) 8) k) 42)) + (V (20 + 4 * k) 7))) 43 ((31 * ((upd (tLst V nc (tOut V nb nc (tR0 V nb) 8) k) 42 ((31 * ((tLst V nc (tOut V nb nc (tR0 V nb) 8) k) 42)) + (V (20 + 4 * k) 7))) 43)) + (V (20 + 4 * k) 8))) 44)) + (V (20 + 4 * k) 9))) 45 ((31 * ((upd (upd (upd (tLst V nc (tOut V nb nc (tR0 V nb) 8) k) 42 ((31 * ((tLst V nc (tOut V nb nc (tR0 V nb) 8) k) 42)) + (V (20 + 4 * k) 7))) 43 ((31 * ((upd (tLst V nc (tOut V nb nc (tR0 V nb) 8) k) 42 ((31 * ((tLst V nc (tOut V nb nc (tR0 V nb) 8) k) 42)) + (V (20 + 4 * k) 7))) 43)) + (V (20 + 4 * k) 8))) 44 ((31 * ((upd (upd (tLst V nc (tOut V nb nc (tR0 V nb) 8) k) 42 ((31 * ((tLst V nc (tOut V nb nc (tR0 V nb) 8) k) 42)) + (V (20 + 4 * k) 7))) 43 ((31 * ((upd (tLst V nc (tOut V nb nc (tR0 V nb) 8) k) 42 ((31 * ((tLst V nc (tOut V nb nc (tR0 V nb) 8) k) 42)) + (V (20 + 4 * k) 7))) 43)) + (V (20 + 4 * k) 8))) 44)) + (V (20 + 4 * k) 9))) 45)) + (V (20 + 4 * k) 3))) 46 ((31 * ((upd (upd (upd (upd (tLst V nc (tOut V nb nc (tR0 V nb) 8) k) 42 ((31 * ((tLst V nc (tOut V nb nc (tR0 V nb) 8) k) 42)) + (V (20 + 4 * k) 7))) 43 ((31 * ((upd (tLst V nc (tOut V nb nc (tR0 V nb) 8) k) 42 ((31 * ((tLst V nc (tOut V nb nc (tR0 V nb) 8) k) 42)) + (V (20 + 4 * k) 7))) 43)) + (V (20 + 4 * k) 8))) 44 ((31 * ((upd (upd (tLst V nc (tOut V nb nc (tR0 V nb) 8) k) 42 ((31 * ((tLst V nc (tOut V nb nc (tR0 V nb) 8) k) 42)) + (V (20 + 4 * k) 7))) 43 ((31 * ((upd (tLst V nc (tOut V nb nc (tR0 V nb) 8) k) 42 ((31 * ((tLst V nc (tOut V nb nc (tR0 V nb) 8) k) 42)) + (V (20 + 4 * k) 7))) 43)) + (V (20 + 4 * k) 8))) 44)) + (V (20 + 4 * k) 9))) 45 ((31 * ((upd (upd (upd (tLst V nc (tOut V nb nc (tR0 V nb) 8) k) 42 ((31 * ((tLst V nc (tOut V nb nc (tR0 V nb) 8) k) 42)) + (V (20 + 4 * k) 7))) 43 ((31 * ((upd (tLst V nc (tOut V nb nc (tR0 V nb) 8) k) 42 ((31 * ((tLst V nc (tOut V nb nc (tR0 V nb) 8) k) 42)) + (V (20 + 4 * k) 7))) 43)) + (V (20 + 4 * k) 8))) 44 ((31 * ((upd (upd (tLst V nc (tOut V nb nc (tR0 V nb) 8) k) 42 ((31 * ((tLst V nc (tOut V nb nc (tR0 V nb) 8) k) 42)) + (V (20 + 4 * k) 7))) 43 ((31 * ((upd (tLst V nc (tOut V nb nc (tR0 V nb) 8) k) 42 ((31 * ((tLst V nc (tOut V nb nc (tR0 V nb) 8) k) 42)) + (V (20 + 4 * k) 7))) 43)) + (V (20 + 4 * k) 8))) 44)) + (V (20 + 4 * k) 9))) 45)) + (V (20 + 4 * k) 3))) 46)) + (pQ V nc k)) ∧ xG D sh ad A s.heap Z2 H locs := ⟨_, hT.row _ _, (xu_same _ _ _ _).trans (congrArg (fun z => upd z 46 ((31 * ((upd (upd (upd (upd (tLst V nc (tOut V nb nc (tR0 V nb) 8) k) 42 ((31 * ((tLst V nc (tOut V nb nc (tR0 V nb) 8) k) 42)) + (V (20 + 4 * k) 7))) 43 ((31 * ((upd (tLst V nc (tOut V nb nc (tR0 V nb) 8) k) 42 ((31 * ((tLst V nc (tOut V nb nc (tR0 V nb) 8) k) 42)) + (V (20 + 4 * k) 7))) 43)) + (V (20 + 4 * k) 8))) 44 ((31 * ((upd (upd (tLst V nc (tOut V nb nc (tR0 V nb) 8) k) 42 ((31 * ((tLst V nc (tOut V nb nc (tR0 V nb) 8) k) 42)) + (V (20 + 4 * k) 7))) 43 ((31 * ((upd (tLst V nc (tOut V nb nc (tR0 V nb) 8) k) 42 ((31 * ((tLst V nc (tOut V nb nc (tR0 V nb) 8) k) 42)) + (V (20 + 4 * k) 7))) 43)) + (V (20 + 4 * k) 8))) 44)) + (V (20 + 4 * k) 9))) 45 ((31 * ((upd (upd (upd (tLst V nc (tOut V nb nc (tR0 V nb) 8) k) 42 ((31 * ((tLst V nc (tOut V nb nc (tR0 V nb) 8) k) 42)) + (V (20 + 4 * k) 7))) 43 ((31 * ((upd (tLst V nc (tOut V nb nc (tR0 V nb) 8) k) 42 ((31 * ((tLst V nc (tOut V nb nc (tR0 V nb) 8) k) 42)) + (V (20 + 4 * k) 7))) 43)) + (V (20 + 4 * k) 8))) 44 ((31 * ((upd (upd (tLst V nc (tOut V nb nc (tR0 V nb) 8) k) 42 ((31 * ((tLst V nc (tOut V nb nc (tR0 V nb) 8) k) 42)) + (V (20 + 4 * k) 7))) 43 ((31 * ((upd (tLst V nc (tOut V nb nc (tR0 V nb) 8) k) 42 ((31 * ((tLst V nc (tOut V nb nc (tR0 V nb) 8) k) 42)) + (V (20 + 4 * k) 7))) 43)) + (V (20 + 4 * k) 8))) 44)) + (V (20 + 4 * k) 9))) 45)) + (V (20 + 4 * k) 3))) 46)) + (pQ V nc k))) hr), G⟩
              refine lv_iinc (v := nI (k + 1)) (lv' := [(2, .int (nI (k + 1))), (0, .ref (ad 0)), (1, .ref (ad i))]) hx hb dL_tell_235 hl (k := 2) rfl (nI_add k 1) (by decide) rfl (fun ls hl => ?_)
              refine lv_goto (tgt := 143) hx hb dL_tell_238 (by decide) ?_
              have hl := lv_sub (l' := [(0, .ref (ad 0)), (1, .ref (ad i)), (2, .int (nI (k + 1)))]) hl [1, 2, 0] rfl
              exact ih_143 (k + 1) Z (by omega) (by omega) hT hr _ _ _ G hl
        have hl := lv_sub (l' := [(0, .ref (ad 0)), (1, .ref (ad i)), (2, .int 0)]) hl [1, 2, 0] rfl
        have hl := lv_cast hl (congrArg (fun z : Int32 => ([(0, .ref (ad 0)), (1, .ref (ad i)), (2, .int z)] : List (Nat × Value))) (show 0 = (nI 0) from rfl))
        exact loop_143 (nb + 1) 0 Z (by omega) (by omega) hT (hr.trans (by rw [show n = 8 by omega]; rfl)) _ _ _ G hl
      · skip
        have c_24 : ¬ (8 ≤ n) := fun h9 => c_24 ((nI_leI (a := 8) (b := n) (by omega) (by omega)).mpr h9)
        refine lv_aload_n hx hb dL_tell_27 rfl (lv_at hl 1 rfl) ?_
        refine lv_iconst (v := 2) hx hb dL_tell_28 (by decide) ?_
        refine lv_iload_n hx hb dL_tell_29 rfl (lv_at hl 2 rfl) ?_
        refine lv_iadd hx hb dL_tell_30 ?_
        refine x_top (show 2 + (nI n) = nI (2 + n) from nI_add 2 n) ?_
        refine lv_aload_n hx hb dL_tell_31 rfl (lv_at hl 0 rfl) ?_
        refine lv_iload_n hx hb dL_tell_32 rfl (lv_at hl 2 rfl) ?_
        refine x_callVi (rest := [.int (nI (2 + n)), .ref (ad i)]) B G ((t_node (D := D) l DL hI (hT.ts hi18) (n := n) (by omega)).1) (cwV 1 B.1.2.2.2.2 gL_tell_X2_held rfl rfl rfl (by decide +kernel) ⟨Nat.le_of_ble_eq_true rfl, Nat.le_of_ble_eq_true rfl⟩) (d_recv B G Dl) rfl hl.1 rfl (Nat.le_of_ble_eq_true rfl) ⟨Nat.le_refl _, Nat.le_refl _⟩ dL_tell_33 (fun H locs G => ?_)
        refine x_ast B G i si 0 hT0 (2 + n) (show (2 + n) < 64 from by omega) rfl (by decide) dL_tell_36 (fun H locs G => ?_)
        obtain ⟨Z, hT, hr, G⟩ : ∃ Z2 : xV, TI i V Z2 ∧ Z2 i = upd (tOut V nb nc (tR0 V nb) n) (2 + n) (nI (cntP (cHas V n) nb)) ∧ xG D sh ad A s.heap Z2 H locs := ⟨_, hT.row _ _, (xu_same _ _ _ _).trans (congrArg (fun z => upd z (2 + n) (nI (cntP (cHas V n) nb))) hr), G⟩
        refine lv_aload_n hx hb dL_tell_37 rfl (lv_at hl 1 rfl) ?_
        refine lv_bipush (v := 10) hx hb dL_tell_38 (by decide) ?_
        refine lv_iload_n hx hb dL_tell_40 rfl (lv_at hl 2 rfl) ?_
        refine lv_iadd hx hb dL_tell_41 ?_
        refine x_top (show 10 + (nI n) = nI (10 + n) from nI_add 10 n) ?_
        refine lv_aload_n hx hb dL_tell_42 rfl (lv_at hl 0 rfl) ?_
        refine lv_iload_n hx hb dL_tell_43 rfl (lv_at hl 2 rfl) ?_
        refine x_callVi (rest := [.int (nI (10 + n)), .ref (ad i)]) B G ((t_node (D := D) l DL hI (hT.ts hi18) (n := n) (by omega)).2.1) (cwV 1 B.1.2.2.2.2 gL_tell_X2_dropped rfl rfl rfl (by decide +kernel) ⟨Nat.le_of_ble_eq_true rfl, Nat.le_of_ble_eq_true rfl⟩) (d_recv B G Dl) rfl hl.1 rfl (Nat.le_of_ble_eq_true rfl) ⟨Nat.le_refl _, Nat.le_refl _⟩ dL_tell_44 (fun H locs G => ?_)
        refine x_ast B G i si 0 hT0 (10 + n) (show (10 + n) < 64 from by omega) rfl (by decide) dL_tell_47 (fun H locs G => ?_)
        obtain ⟨Z, hT, hr, G⟩ : ∃ Z2 : xV, TI i V Z2 ∧ Z2 i = upd (upd (tOut V nb nc (tR0 V nb) n) (2 + n) (nI (cntP (cHas V n) nb))) (10 + n) (V 2 n) ∧ xG D sh ad A s.heap Z2 H locs := ⟨_, hT.row _ _, (xu_same _ _ _ _).trans (congrArg (fun z => upd z (10 + n) (V 2 n)) hr), G⟩
        refine lv_aload_n hx hb dL_tell_48 rfl (lv_at hl 1 rfl) ?_
        refine lv_bipush (v := 18) hx hb dL_tell_49 (by decide) ?_
        refine lv_iload_n hx hb dL_tell_51 rfl (lv_at hl 2 rfl) ?_
        refine lv_iadd hx hb dL_tell_52 ?_
        refine x_top (show 18 + (nI n) = nI (18 + n) from nI_add 18 n) ?_
        refine lv_aload_n hx hb dL_tell_53 rfl (lv_at hl 0 rfl) ?_
        refine lv_iload_n hx hb dL_tell_54 rfl (lv_at hl 2 rfl) ?_
        refine x_callVi (rest := [.int (nI (18 + n)), .ref (ad i)]) B G ((t_node (D := D) l DL hI (hT.ts hi18) (n := n) (by omega)).2.2) (cwV 1 B.1.2.2.2.2 gL_tell_X2_refused rfl rfl rfl (by decide +kernel) ⟨Nat.le_of_ble_eq_true rfl, Nat.le_of_ble_eq_true rfl⟩) (d_recv B G Dl) rfl hl.1 rfl (Nat.le_of_ble_eq_true rfl) ⟨Nat.le_refl _, Nat.le_refl _⟩ dL_tell_55 (fun H locs G => ?_)
        refine x_ast B G i si 0 hT0 (18 + n) (show (18 + n) < 64 from by omega) rfl (by decide) dL_tell_58 (fun H locs G => ?_)
        obtain ⟨Z, hT, hr, G⟩ : ∃ Z2 : xV, TI i V Z2 ∧ Z2 i = upd (upd (upd (tOut V nb nc (tR0 V nb) n) (2 + n) (nI (cntP (cHas V n) nb))) (10 + n) (V 2 n)) (18 + n) (V 3 n) ∧ xG D sh ad A s.heap Z2 H locs := ⟨_, hT.row _ _, (xu_same _ _ _ _).trans (congrArg (fun z => upd z (18 + n) (V 3 n)) hr), G⟩
        refine lv_aload_n hx hb dL_tell_59 rfl (lv_at hl 1 rfl) ?_
        refine lv_bipush (v := 26) hx hb dL_tell_60 (by decide) ?_
        refine lv_iload_n hx hb dL_tell_62 rfl (lv_at hl 2 rfl) ?_
        refine lv_iadd hx hb dL_tell_63 ?_
        refine x_top (show 26 + (nI n) = nI (26 + n) from nI_add 26 n) ?_
        refine lv_aload_n hx hb dL_tell_64 rfl (lv_at hl 0 rfl) ?_
        refine lv_iload_n hx hb dL_tell_65 rfl (lv_at hl 2 rfl) ?_
        refine lv_iconst (v := 0) hx hb dL_tell_66 (by decide) ?_
        refine x_callVi (rest := [.int (nI (26 + n)), .ref (ad i)]) B G (t_arrival l DL hI (hT.ts hi18) (n := n) (d := 0) (by omega) (by omega)) (cwV 2 B.1.2.2.2.2 gL_tell_X2_arrival rfl rfl rfl (by decide +kernel) ⟨Nat.le_of_ble_eq_true rfl, Nat.le_of_ble_eq_true rfl⟩) (d_recv B G Dl) rfl hl.1 rfl (Nat.le_of_ble_eq_true rfl) ⟨Nat.le_refl _, Nat.le_refl _⟩ dL_tell_67 (fun H locs G => ?_)
        obtain ⟨Z, hT, hr, G⟩ : ∃ Z2 : xV, TI i V Z2 ∧ Z2 i = upd (upd (upd (tOut V nb nc (tR0 V nb) n) (2 + n) (nI (cntP (cHas V n) nb))) (10 + n) (V 2 n)) (18 + n) (V 3 n) ∧ xG D sh ad A s.heap Z2 H locs := ⟨_, hT.fin _ _ _ _, (pFin_o _ _ _ _ _ (by omega) (by omega)).trans hr, G⟩
        refine lv_bipush (v := 31) hx hb dL_tell_70 (by decide) ?_
        refine lv_aload_n hx hb dL_tell_72 rfl (lv_at hl 0 rfl) ?_
        refine lv_iload_n hx hb dL_tell_73 rfl (lv_at hl 2 rfl) ?_
        refine lv_iconst (v := 3) hx hb dL_tell_74 (by decide) ?_
        refine x_callVi (rest := [.int 31, .int (aQ V nc n 0), .int (nI (26 + n)), .ref (ad i)]) B G (t_arrival l DL hI (hT.ts hi18) (n := n) (d := 3) (by omega) (by omega)) (cwV 2 B.1.2.2.2.2 gL_tell_X2_arrival rfl rfl rfl (by decide +kernel) ⟨Nat.le_of_ble_eq_true rfl, Nat.le_of_ble_eq_true rfl⟩) (d_recv B G Dl) rfl hl.1 rfl (Nat.le_of_ble_eq_true rfl) ⟨Nat.le_refl _, Nat.le_refl _⟩ dL_tell_75 (fun H locs G => ?_)
        obtain ⟨Z, hT, hr, G⟩ : ∃ Z2 : xV, TI i V Z2 ∧ Z2 i = upd (upd (upd (tOut V nb nc (tR0 V nb) n) (2 + n) (nI (cntP (cHas V n) nb))) (10 + n) (V 2 n)) (18 + n) (V 3 n) ∧ xG D sh ad A s.heap Z2 H locs := ⟨_, hT.fin _ _ _ _, (pFin_o _ _ _ _ _ (by omega) (by omega)).trans hr, G⟩
        refine lv_imul hx hb dL_tell_78 ?_
        refine lv_iadd hx hb dL_tell_79 ?_
        refine x_ast B G i si 0 hT0 (26 + n) (show (26 + n) < 64 from by omega) rfl (by decide) dL_tell_80 (fun H locs G => ?_)
        obtain ⟨Z, hT, hr, G⟩ : ∃ Z2 : xV, TI i V Z2 ∧ Z2 i = upd (upd (upd (upd (tOut V nb nc (tR0 V nb) n) (2 + n) (nI (cntP (cHas V n) nb))) (10 + n) (V 2 n)) (18 + n) (V 3 n)) (26 + n) ((aQ V nc n 0) + (31 * (aQ V nc n 3))) ∧ xG D sh ad A s.heap Z2 H locs := ⟨_, hT.row _ _, (xu_same _ _ _ _).trans (congrArg (fun z => upd z (26 + n) ((aQ V nc n 0) + (31 * (aQ V nc n 3)))) hr), G⟩
        refine lv_iconst (v := 0) hx hb dL_tell_81 (by decide) ?_
        refine lv_istore_n (lv' := [(3, .int 0), (0, .ref (ad 0)), (1, .ref (ad i)), (2, .int (nI n))]) hx hb dL_tell_82 rfl hl (by decide) rfl (fun ls hl => ?_)
        have loop_83 : ∀ (f k : Nat) (Z : xV), k ≤ nb → nb < k + f → (TI i V Z) → (Z i = tIn V n (tHd V nb nc n (tOut V nb nc (tR0 V nb) n)) k) → ∀ (H : Heap) (locs : List Loc) (ls : Array Slot), xG D sh ad A s.heap Z H locs → lv_has ls 4 [(0, .ref (ad 0)), (1, .ref (ad i)), (2, .int (nI n)), (3, .int (nI k))] → W p l e (rmLw 1 64) s m args below meth c H locs (1) (64) Q (F0 m 83 ls []) := by
          intro f
          induction f with
          | zero => intro k Z h1 h2; exact absurd h2 (by omega)
          | succ f ih_83 =>
            intro k Z hi hf hT hr H locs ls G hl
            refine lv_iload_n hx hb dL_tell_83 rfl (lv_at hl 3 rfl) ?_
            refine lv_aload_n hx hb dL_tell_84 rfl (lv_at hl 1 rfl) ?_
            refine lv_iconst (v := 1) hx hb dL_tell_85 (by decide) ?_
            refine x_ald B G i si 0 hT0 1 (show 1 < 64 from by omega) rfl (by decide) dL_tell_86 ?_
            refine x_top (show _ = nI nb from (congrFun hr 1).trans ((tIn_1 V n _ k (by decide)).trans (show tHd V nb nc n (tOut V nb nc (tR0 V nb) n) 1 = nI nb from (show _ = tOut V nb nc (tR0 V nb) n 1 by unfold tHd; rw [upd_ne (by omega), upd_ne (by omega), upd_ne (by omega), upd_ne (by omega)]).trans (tOut_1 V nb nc (tR0 V nb) n (by decide))))) ?_
            refine lv_icmp_ge (tgt := 135) hx hb dL_tell_87 (by decide) (fun c_87 => ?_) (fun c_87 => ?_)
            · skip
              have c_87 : nb ≤ k := (nI_leI (a := nb) (b := k) (by omega) (by omega)).mp c_87
              refine lv_iinc (v := nI (n + 1)) (lv' := [(2, .int (nI (n + 1))), (0, .ref (ad 0)), (1, .ref (ad i)), (3, .int (nI k))]) hx hb dL_tell_135 hl (k := 2) rfl (nI_add n 1) (by decide) rfl (fun ls hl => ?_)
              refine lv_goto (tgt := 21) hx hb dL_tell_138 (by decide) ?_
              have hl := lv_sub (l' := [(0, .ref (ad 0)), (1, .ref (ad i)), (2, .int (nI (n + 1)))]) hl [1, 2, 0] rfl
              exact ih_21 (n + 1) Z (by omega) (by omega) hT (hr.trans (by rw [show k = nb by omega]; rfl)) _ _ _ G hl
            · skip
              have c_87 : ¬ (nb ≤ k) := fun h9 => c_87 ((nI_leI (a := nb) (b := k) (by omega) (by omega)).mpr h9)
              refine lv_aload_n hx hb dL_tell_90 rfl (lv_at hl 1 rfl) ?_
              refine lv_bipush (v := 34) hx hb dL_tell_91 (by decide) ?_
              refine lv_iload_n hx hb dL_tell_93 rfl (lv_at hl 2 rfl) ?_
              refine lv_iadd hx hb dL_tell_94 ?_
              refine x_top (show 34 + (nI n) = nI (34 + n) from nI_add 34 n) ?_
              refine lv_bipush (v := 31) hx hb dL_tell_95 (by decide) ?_
              refine lv_aload_n hx hb dL_tell_97 rfl (lv_at hl 1 rfl) ?_
              refine lv_bipush (v := 34) hx hb dL_tell_98 (by decide) ?_
              refine lv_iload_n hx hb dL_tell_100 rfl (lv_at hl 2 rfl) ?_
              refine lv_iadd hx hb dL_tell_101 ?_
              refine x_top (show 34 + (nI n) = nI (34 + n) from nI_add 34 n) ?_
              refine x_ald B G i si 0 hT0 (34 + n) (show (34 + n) < 64 from by omega) rfl (by decide) dL_tell_102 ?_
              refine x_top (show _ = (tIn V n (tHd V nb nc n (tOut V nb nc (tR0 V nb) n)) k) (34 + n) from congrFun hr (34 + n)) ?_
              refine lv_imul hx hb dL_tell_103 ?_
              refine lv_iconst (v := 2) hx hb dL_tell_104 (by decide) ?_
              refine lv_aload_n hx hb dL_tell_105 rfl (lv_at hl 0 rfl) ?_
              refine lv_iload_n hx hb dL_tell_106 rfl (lv_at hl 2 rfl) ?_
              refine lv_iload_n hx hb dL_tell_107 rfl (lv_at hl 3 rfl) ?_
              refine x_callVi (rest := [.int 2, .int (31 * ((tIn V n (tHd V nb nc n (tOut V nb nc (tR0 V nb) n)) k) (34 + n))), .int (nI (34 + n)), .ref (ad i)]) B G (t_copies l DL hI (hT.ts hi18) (n := n) (k := k) (by omega) (by omega)) (cwV 2 B.1.2.2.2.2 gL_tell_X2_copies rfl rfl rfl (by decide +kernel) ⟨Nat.le_of_ble_eq_true rfl, Nat.le_of_ble_eq_true rfl⟩) (d_recv B G Dl) rfl hl.1 rfl (Nat.le_of_ble_eq_true rfl) ⟨Nat.le_refl _, Nat.le_refl _⟩ dL_tell_108 (fun H locs G => ?_)
              refine lv_imul hx hb dL_tell_111 ?_
              refine lv_iadd hx hb dL_tell_112 ?_
              refine lv_aload_n hx hb dL_tell_113 rfl (lv_at hl 0 rfl) ?_
              refine lv_iload_n hx hb dL_tell_114 rfl (lv_at hl 2 rfl) ?_
              refine lv_iload_n hx hb dL_tell_115 rfl (lv_at hl 3 rfl) ?_
              refine x_callVi (rest := [.int ((31 * ((tIn V n (tHd V nb nc n (tOut V nb nc (tR0 V nb) n)) k) (34 + n))) + (2 * (V (20 + 4 * k + 1) n))), .int (nI (34 + n)), .ref (ad i)]) B G (t_knows l DL hI (hT.ts hi18) (n := n) (k := k) (by omega) (by omega)) (cwV 2 B.1.2.2.2.2 gL_tell_X2_knows rfl rfl rfl (by decide +kernel) ⟨Nat.le_of_ble_eq_true rfl, Nat.le_of_ble_eq_true rfl⟩) (d_recv B G Dl) rfl hl.1 rfl (Nat.le_of_ble_eq_true rfl) ⟨Nat.le_refl _, Nat.le_refl _⟩ dL_tell_116 (fun H locs G => ?_)
              refine lv_if_eq (tgt := 126) hx hb dL_tell_119 (by decide) (fun c_119 => ?_) (fun c_119 => ?_)
              · skip
                refine lv_iconst (v := 0) hx hb dL_tell_126 (by decide) ?_
                refine lv_iadd hx hb dL_tell_127 ?_
                refine x_ast B G i si 0 hT0 (34 + n) (show (34 + n) < 64 from by omega) rfl (by decide) dL_tell_128 (fun H locs G => ?_)
                obtain ⟨Z, hT, hr, G⟩ : ∃ Z2 : xV, TI i V Z2 ∧ Z2 i = upd (tIn V n (tHd V nb nc n (tOut V nb nc (tR0 V nb) n)) k) (34 + n) (((31 * ((tIn V n (tHd V nb nc n (tOut V nb nc (tR0 V nb) n)) k) (34 + n))) + (2 * (V (20 + 4 * k + 1) n))) + 0) ∧ xG D sh ad A s.heap Z2 H locs := ⟨_, hT.row _ _, (xu_same _ _ _ _).trans (congrArg (fun z => upd z (34 + n) (((31 * ((tIn V n (tHd V nb nc n (tOut V nb nc (tR0 V nb) n)) k) (34 + n))) + (2 * (V (20 + 4 * k + 1) n))) + 0)) hr), G⟩
                refine lv_iinc (v := nI (k + 1)) (lv' := [(3, .int (nI (k + 1))), (0, .ref (ad 0)), (1, .ref (ad i)), (2, .int (nI n))]) hx hb dL_tell_129 hl (k := 3) rfl (nI_add k 1) (by decide) rfl (fun ls hl => ?_)
                refine lv_goto (tgt := 83) hx hb dL_tell_132 (by decide) ?_
                have hl := lv_sub (l' := [(0, .ref (ad 0)), (1, .ref (ad i)), (2, .int (nI n)), (3, .int (nI (k + 1)))]) hl [1, 2, 3, 0] rfl
                exact ih_83 (k + 1) Z (by omega) (by omega) hT (hr.trans (by show _ = upd (tIn V n (tHd V nb nc n (tOut V nb nc (tR0 V nb) n)) k) (34 + n) (31 * tIn V n (tHd V nb nc n (tOut V nb nc (tR0 V nb) n)) k (34 + n) + 2 * V (20 + 4 * k + 1) n + (if V (20 + 4 * k + 3) n = 0 then 0 else 1)); rw [if_pos c_119])) _ _ _ G hl
              · skip
                refine lv_iconst (v := 1) hx hb dL_tell_122 (by decide) ?_
                refine lv_goto (tgt := 127) hx hb dL_tell_123 (by decide) ?_
                refine lv_iadd hx hb dL_tell_127 ?_
                refine x_ast B G i si 0 hT0 (34 + n) (show (34 + n) < 64 from by omega) rfl (by decide) dL_tell_128 (fun H locs G => ?_)
                obtain ⟨Z, hT, hr, G⟩ : ∃ Z2 : xV, TI i V Z2 ∧ Z2 i = upd (tIn V n (tHd V nb nc n (tOut V nb nc (tR0 V nb) n)) k) (34 + n) (((31 * ((tIn V n (tHd V nb nc n (tOut V nb nc (tR0 V nb) n)) k) (34 + n))) + (2 * (V (20 + 4 * k + 1) n))) + 1) ∧ xG D sh ad A s.heap Z2 H locs := ⟨_, hT.row _ _, (xu_same _ _ _ _).trans (congrArg (fun z => upd z (34 + n) (((31 * ((tIn V n (tHd V nb nc n (tOut V nb nc (tR0 V nb) n)) k) (34 + n))) + (2 * (V (20 + 4 * k + 1) n))) + 1)) hr), G⟩
                refine lv_iinc (v := nI (k + 1)) (lv' := [(3, .int (nI (k + 1))), (0, .ref (ad 0)), (1, .ref (ad i)), (2, .int (nI n))]) hx hb dL_tell_129 hl (k := 3) rfl (nI_add k 1) (by decide) rfl (fun ls hl => ?_)
                refine lv_goto (tgt := 83) hx hb dL_tell_132 (by decide) ?_
                have hl := lv_sub (l' := [(0, .ref (ad 0)), (1, .ref (ad i)), (2, .int (nI n)), (3, .int (nI (k + 1)))]) hl [1, 2, 3, 0] rfl
                exact ih_83 (k + 1) Z (by omega) (by omega) hT (hr.trans (by show _ = upd (tIn V n (tHd V nb nc n (tOut V nb nc (tR0 V nb) n)) k) (34 + n) (31 * tIn V n (tHd V nb nc n (tOut V nb nc (tR0 V nb) n)) k (34 + n) + 2 * V (20 + 4 * k + 1) n + (if V (20 + 4 * k + 3) n = 0 then 0 else 1)); rw [if_neg c_119])) _ _ _ G hl
        have hl := lv_sub (l' := [(0, .ref (ad 0)), (1, .ref (ad i)), (2, .int (nI n)), (3, .int 0)]) hl [1, 2, 3, 0] rfl
        have hl := lv_cast hl (congrArg (fun z : Int32 => ([(0, .ref (ad 0)), (1, .ref (ad i)), (2, .int (nI n)), (3, .int z)] : List (Nat × Value))) (show 0 = (nI 0) from rfl))
        exact loop_83 (nb + 1) 0 Z (by omega) (by omega) hT hr _ _ _ G hl
  have hl := lv_sub (l' := [(0, .ref (ad 0)), (1, .ref (ad i)), (2, .int 0)]) hl [2, 1, 0] rfl
  have hl := lv_cast hl (congrArg (fun z : Int32 => ([(0, .ref (ad 0)), (1, .ref (ad i)), (2, .int z)] : List (Nat × Value))) (show 0 = (nI 0) from rfl))
  exact loop_21 (8 + 1) 0 Z (by omega) (by omega) hT hr _ _ _ G hl
set_option maxHeartbeats 1000000 in
set_option maxRecDepth 100000 in
theorem c_L_tell (l : Launch) {D : va_G} {sh : xS} {ad : Nat → Nat} {cI cZ cO : ClassId} {tys : List (ClassId × FieldType)} {t nb nc : Nat} {od S : Nat → Nat} {mi e0 : Nat} {sa : Nat → Nat} (DW : xDw sh ad cI cZ cO tys e0 nb od) (V : xV) (hI : INV t nb nc od S V) {i : Nat} (hi : i = 18 ∨ i = 19) :
    xMl l yL_tell wsL_tell (rmLw 1 64) D sh ad tys mi e0 sa V [.ref (ad 0)] (fun v sh' ad' V' => ∃ q, v = some (.ref q) ∧ sh' = sU sh i (fun f => .inl (cI, 64, .inl f)) ∧ ad' = aU ad i q ∧ TI i V V' ∧ V' i = tellR V nb nc) := by
  have DL := DW.dl
  refine xOfl (cc := cL_tell) (nL := 4) (ret := some (.array .int)) (own := RL) (by decide) rfl rfl (Nat.le_of_ble_eq_true rfl) DL.2.2.2.2.2.2.1.2.2 ?_
  intro p e s m args below meth c A ls hA B E F hN G hl
  have hx := B.1.1
  have hb := B.1.2.1
  have hT0 := DL.2.2.2.2.2.2.1.1
  have hl : lv_has ls 4 [(0, .ref (ad 0))] := hl
  refine lv_bipush (v := 64) hx hb dL_tell_0 (by decide) ?_
  refine x_newa B G i .int (atype := .int) rfl rfl (by decide +kernel) 0 hT0 (fun _ _ h => h) (N := 64) (by decide) rfl (by decide) (Nat.le_of_ble_eq_true rfl) (Nat.le_of_ble_eq_true rfl) dL_tell_2 (fun q H B1 G1 => ?_)
  have ks : ∀ j, j < 16 ∨ 20 ≤ j → sU sh i (fun f => .inl (cI, 64, .inl f)) j = sh j := fun j hj => sU_n _ _ (by omega)
  have ka : ∀ j, j < 16 ∨ 20 ≤ j → aU ad i q j = ad j := fun j hj => aU_n _ _ (by omega)
  have DW1 := DW.law ks ka B1.2.2.2.2.1
  have e0' : aU ad i q 0 = ad 0 := ka 0 (by omega)
  have ei : aU ad i q i = q := aU_s _ _ _
  have si : sU sh i (fun f => .inl (cI, 64, .inl f)) i = some (fun f => .inl (cI, 64, .inl f)) := sU_s _ _ _
  have hT : TI i V (vU V i (fun _ => 0)) := fun j _ _ a => vU_n _ _ a
  have hr : vU V i (fun _ => 0) i = fun _ => 0 := vU_s _ _ _
  rw [show (Value.ref q) = .ref (aU ad i q i) from by rw [ei]]
  refine tell_body B1 DW1.dl hI (by omega) hi si G1 hT hr (lv_cast hl (by rw [e0'])) (fun Z H locs ls hT hr G => ?_)
  exact x_aenda hA B1 G (Or.inr ⟨_, rfl⟩) ⟨q, by rw [ei], rfl, rfl, hT, hr⟩ (Nat.le_refl _) (Nat.le_refl _) dL_tell_242
