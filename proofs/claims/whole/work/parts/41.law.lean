/-- how things stand at the loop's head: t rounds done, i the place in the script -/
def LSt (D : va_G) (tys : List (ClassId × FieldType)) (cI cJ : ClassId) (shm : xS) (adm : Nat → Nat) (LI : Nat → xS → (Nat → Nat) → xV → xV → Prop) (b : Nat) (p : Program) (s : State) (m : MethodId) (args : Array Value) (meth : Method) (c : Code) (A : Nat → Prop) (t i : Nat) (sh : xS) (ad : Nat → Nat) (V Vm : xV) (H : Heap) (locs : List Loc) (ls : Array Slot) : Prop :=
  xB p s m args meth c cL_law 7 (some .boolean) wsL_law RL D sh ad A tys ∧ xG D sh ad A s.heap V H locs ∧ xW D shm adm Vm H ∧ xApart sh ad shm adm ∧ LI t sh ad V Vm ∧ (xDo sh ad cI ∧ sh 16 = some (oMk cJ)) ∧ lv_has ls 7 [(0, .ref b), (1, .ref (ad 0)), (2, .ref (adm 17)), (3, .ref (ad 16)), (4, .int (nI i))]
/-- what an operation owes: the wrapper and the reference agree -/
def LawP (l : Launch) (D : va_G) (tys : List (ClassId × FieldType)) (mi e0 : Nat) (sa : Nat → Nat) (shm : xS) (adm : Nat → Nat) (LI : Nat → xS → (Nat → Nat) → xV → xV → Prop) (yw : MethodName) (wsw : List Cond) (ym : MethodName) (wsm : List Cond) (lv n : Nat) : Prop :=
  ∀ (t : Nat) (sh : xS) (ad : Nat → Nat) (V Vm : xV) (xs : List Int32), xs.length = n → t < 512 → LI t sh ad V Vm → ∃ (r o : Int32) (Vm' : xV),
    xMw l yw wsw D sh ad tys mi e0 sa V (.ref (ad 0) :: (xs.map .int ++ [.ref (ad 16)])) (fun v sh' ad' V' => v = some (.int r) ∧ LI (t + 1) sh' ad' V' Vm' ∧ ad' 0 = ad 0 ∧ ad' 16 = ad 16 ∧ (r = 0 → V' 16 0 = o)) ∧
    xMi l ym wsm (rmK lv) D shm adm tys Vm (.ref (adm 17) :: xs.map .int) o Vm' ∧ Vm' 17 20 = r
/-- .. of a boolean -/
def LawB (l : Launch) (D : va_G) (tys : List (ClassId × FieldType)) (mi e0 : Nat) (sa : Nat → Nat) (shm : xS) (adm : Nat → Nat) (LI : Nat → xS → (Nat → Nat) → xV → xV → Prop) (yw : MethodName) (wsw : List Cond) (ym : MethodName) (wsm : List Cond) (lv n : Nat) : Prop :=
  ∀ (t : Nat) (sh : xS) (ad : Nat → Nat) (V Vm : xV) (xs : List Int32), xs.length = n → t < 512 → LI t sh ad V Vm → ∃ (r o : Int32) (Vm' : xV),
    xMw l yw wsw D sh ad tys mi e0 sa V (.ref (ad 0) :: (xs.map .int ++ [.ref (ad 16)])) (fun v sh' ad' V' => v = some (.int r) ∧ LI (t + 1) sh' ad' V' Vm' ∧ ad' 0 = ad 0 ∧ ad' 16 = ad 16 ∧ (r = 0 → V' 16 0 = o)) ∧
    xMi l ym wsm (rmK lv) D shm adm tys Vm (.ref (adm 17) :: xs.map .int) o Vm' ∧ Vm' 17 20 = r ∧ (o = 0 ∨ o = 1)
/-- .. and one that cannot fail -/
def LawQ (l : Launch) (D : va_G) (tys : List (ClassId × FieldType)) (shm : xS) (adm : Nat → Nat) (LI : Nat → xS → (Nat → Nat) → xV → xV → Prop) (yc : MethodName) (wsc : List Cond) (lc : Nat) (ym : MethodName) (wsm : List Cond) (lv : Nat) : Prop :=
  ∀ (t : Nat) (sh : xS) (ad : Nat → Nat) (V Vm : xV), t < 512 → LI t sh ad V Vm → ∃ (o : Int32) (Vm' : xV),
    xMi l yc wsc (rmK lc) D sh ad tys V [.ref (ad 0)] o V ∧ xMi l ym wsm (rmK lv) D shm adm tys Vm [.ref (adm 17)] o Vm' ∧ LI (t + 1) sh ad V Vm'
theorem l_cmp0 {x y : Int64} (h : x = y) : lg_cmp x y = 0 := by
  subst h
  unfold lg_cmp
  rw [if_neg (by simp), if_pos rfl]
theorem xB.of {p : Program} {s : State} {m : MethodId} {args : Array Value} {meth : Method} {c : Code} {cc : ByteArray} {nL : Nat} {ret : Option FieldType} {Ts : List Cond} {own : String} {D : va_G} {sh shm : xS} {ad adm : Nat → Nat} {A : Nat → Prop} {tys : List (ClassId × FieldType)} (B : xB p s m args meth c cc nL ret Ts own D sh ad A tys) (hI : xI shm adm) (hA : ∀ (i : Nat) (mk : (Nat → Int32) → va_E), shm i = some mk → A (adm i)) : xB p s m args meth c cc nL ret Ts own D shm adm A tys :=
  ⟨B.1, B.2.1, B.2.2.1, B.2.2.2.1, hI, hA, B.2.2.2.2.2.2⟩
set_option maxHeartbeats 1000000 in
set_option maxRecDepth 100000 in
theorem law_send {p : Program} (l : Launch) {e : Env} {s : State} {m : MethodId} {args : Array Value} {below : List Frame} {meth : Method} {c : Code} {A : Nat → Prop} {D : va_G} {tys : List (ClassId × FieldType)} {cI cJ : ClassId} {mi e0 : Nat} {sa : Nat → Nat} {shm : xS} {adm : Nat → Nat} {LI : Nat → xS → (Nat → Nat) → xV → xV → Prop} {b L : Nat} {xs : Nat → Int32} {Q : State → Prop} (E : xE mi e0 A s s.heap) (F : xF sa A s s.heap) (hN : xN s) (hX : va_X b L xs s s.heap) (hbl : b < s.heap.size) (hbA : ¬ A b) (hL : L ≤ 3072) (Mm : xMm shm adm cI tys) (hAm : ∀ (i : Nat) (mk : (Nat → Int32) → va_E), shm i = some mk → A (adm i)) (hT3 : tys[3]? = some (cJ, .long)) (hDo9 : ∀ t sh ad V Vm, LI t sh ad V Vm → xDo sh ad cI ∧ sh 16 = some (oMk cJ))
    (hP : LawP l D tys mi e0 sa shm adm LI yL_send wsL_send yX3_send wsX3_send 3 5) {t i cells slots : Nat} (ht : t < 512) (hi : i + 6 ≤ L) (hcs : cells + 8 ≤ room_1.cells ∧ slots + 180 ≤ room_1.slots) {sh : xS} {ad : Nat → Nat} {V Vm : xV} {H : Heap} {locs : List Loc} {ls : Array Slot} (hS : LSt D tys cI cJ shm adm LI b p s m args meth c A t i sh ad V Vm H locs ls)
    (cont : ∀ (sh : xS) (ad : Nat → Nat) (V Vm : xV) (H : Heap) (locs : List Loc) (ls : Array Slot), LSt D tys cI cJ shm adm LI b p s m args meth c A (t + 1) i sh ad V Vm H locs ls → W p l e room_1 s m args below meth c H locs (cells + 8) (slots + 180) Q (F0 m 1417 ls [])) :
    W p l e room_1 s m args below meth c H locs cells slots Q (F0 m 140 ls []) := by
  obtain ⟨B, G, Gm, hap, hLI, hDo, hl⟩ := hS
  have hx := B.1.1
  have hb := B.1.2.1
  have hIm := Mm.2.2
  have hcc : room_1.cells = 601024 := rfl
  have hcd : room_1.slots = 7293034 := rfl
  obtain ⟨r, o, Vm', hW, hM, hthr⟩ := hP t sh ad V Vm [xs (i + 1), xs (i + 2), xs (i + 3), xs (i + 4), xs (i + 5)] rfl ht hLI
  refine lv_aload_n hx hb dL_law_140 rfl (lv_at hl 1 rfl) ?_
  refine lv_aload_n hx hb dL_law_141 rfl (lv_at hl 0 rfl) ?_
  refine lv_iload hx hb dL_law_142 (lv_at hl 4 rfl) ?_
  refine lv_iconst (v := 1) hx hb dL_law_144 (by decide) ?_
  refine lv_iadd hx hb dL_law_145 ?_
  refine x_top (show (nI i) + 1 = nI (i + 1) from nI_add i 1) ?_
  refine va_sld hx hb hX hbl hbA G.2 (vp_in_nI (show i + 1 < L by omega) (by omega)) dL_law_146 ?_
  rw [nI_clamp (show i + 1 < 2 ^ 31 by omega)]
  refine lv_aload_n hx hb dL_law_147 rfl (lv_at hl 0 rfl) ?_
  refine lv_iload hx hb dL_law_148 (lv_at hl 4 rfl) ?_
  refine lv_iconst (v := 2) hx hb dL_law_150 (by decide) ?_
  refine lv_iadd hx hb dL_law_151 ?_
  refine x_top (show (nI i) + 2 = nI (i + 2) from nI_add i 2) ?_
  refine va_sld hx hb hX hbl hbA G.2 (vp_in_nI (show i + 2 < L by omega) (by omega)) dL_law_152 ?_
  rw [nI_clamp (show i + 2 < 2 ^ 31 by omega)]
  refine lv_aload_n hx hb dL_law_153 rfl (lv_at hl 0 rfl) ?_
  refine lv_iload hx hb dL_law_154 (lv_at hl 4 rfl) ?_
  refine lv_iconst (v := 3) hx hb dL_law_156 (by decide) ?_
  refine lv_iadd hx hb dL_law_157 ?_
  refine x_top (show (nI i) + 3 = nI (i + 3) from nI_add i 3) ?_
  refine va_sld hx hb hX hbl hbA G.2 (vp_in_nI (show i + 3 < L by omega) (by omega)) dL_law_158 ?_
  rw [nI_clamp (show i + 3 < 2 ^ 31 by omega)]
  refine lv_aload_n hx hb dL_law_159 rfl (lv_at hl 0 rfl) ?_
  refine lv_iload hx hb dL_law_160 (lv_at hl 4 rfl) ?_
  refine lv_iconst (v := 4) hx hb dL_law_162 (by decide) ?_
  refine lv_iadd hx hb dL_law_163 ?_
  refine x_top (show (nI i) + 4 = nI (i + 4) from nI_add i 4) ?_
  refine va_sld hx hb hX hbl hbA G.2 (vp_in_nI (show i + 4 < L by omega) (by omega)) dL_law_164 ?_
  rw [nI_clamp (show i + 4 < 2 ^ 31 by omega)]
  refine lv_aload_n hx hb dL_law_165 rfl (lv_at hl 0 rfl) ?_
  refine lv_iload hx hb dL_law_166 (lv_at hl 4 rfl) ?_
  refine lv_iconst (v := 5) hx hb dL_law_168 (by decide) ?_
  refine lv_iadd hx hb dL_law_169 ?_
  refine x_top (show (nI i) + 5 = nI (i + 5) from nI_add i 5) ?_
  refine va_sld hx hb hX hbl hbA G.2 (vp_in_nI (show i + 5 < L by omega) (by omega)) dL_law_170 ?_
  rw [nI_clamp (show i + 5 < 2 ^ 31 by omega)]
  refine lv_aload_n hx hb dL_law_171 rfl (lv_at hl 3 rfl) ?_
  refine x_callSw (rest := []) (fun H1 => xW D shm adm Vm H1) B E F hN G (fun H1 hz hk => Gm.keepK hap hk) hW (vx_cwSW 7 B.1.2.2.2.2 gL_law_L_send rfl rfl rfl (by decide +kernel) ⟨Nat.le_of_ble_eq_true rfl, Nat.le_of_ble_eq_true rfl⟩) rfl hl.1 rfl (Nat.le_of_ble_eq_true rfl) hcs dL_law_172 (fun v sh1 ad1 V1 H1 locs hR Gm1 hA1 B G => ?_)
  obtain ⟨rfl, hLI1, e_0, e_16, hans⟩ := hR
  have hap1 := hap.after Gm hA1
  have hDo1 := hDo9 _ _ _ _ _ hLI1
  have hl : lv_has ls 7 [(0, .ref b), (1, .ref (ad1 0)), (2, .ref (adm 17)), (3, .ref (ad1 16)), (4, .int (nI i))] := lv_cast hl (by rw [e_0, e_16])
  refine W.eq (g2 := F0 m 175 ls [.int r]) rfl ?_
  refine lv_istore (lv' := [(5, .int r), (0, .ref b), (1, .ref (ad1 0)), (2, .ref (adm 17)), (3, .ref (ad1 16)), (4, .int (nI i))]) hx hb dL_law_175 hl (by decide) rfl (fun ls hl => ?_)
  refine lv_aload_n hx hb dL_law_177 rfl (lv_at hl 3 rfl) ?_
  refine lv_aload_n hx hb dL_law_178 rfl (lv_at hl 1 rfl) ?_
  refine lv_iload hx hb dL_law_179 (lv_at hl 5 rfl) ?_
  refine lv_iconst (v := 1) hx hb dL_law_181 (by decide) ?_
  refine lv_iadd hx hb dL_law_182 ?_
  refine x_top (show (nI i) + 1 = nI (i + 1) from nI_add i 1) ?_
  refine va_sld hx hb hX hbl hbA G.2 (vp_in_nI (show i + 1 < L by omega) (by omega)) dL_law_183 ?_
  rw [nI_clamp (show i + 1 < 2 ^ 31 by omega)]
  refine lv_aload_n hx hb dL_law_184 rfl (lv_at hl 1 rfl) ?_
  refine lv_iload hx hb dL_law_185 (lv_at hl 5 rfl) ?_
  refine lv_iconst (v := 2) hx hb dL_law_187 (by decide) ?_
  refine lv_iadd hx hb dL_law_188 ?_
  refine x_top (show (nI i) + 2 = nI (i + 2) from nI_add i 2) ?_
  refine va_sld hx hb hX hbl hbA G.2 (vp_in_nI (show i + 2 < L by omega) (by omega)) dL_law_189 ?_
  rw [nI_clamp (show i + 2 < 2 ^ 31 by omega)]
  refine lv_aload_n hx hb dL_law_190 rfl (lv_at hl 1 rfl) ?_
  refine lv_iload hx hb dL_law_191 (lv_at hl 5 rfl) ?_
  refine lv_iconst (v := 3) hx hb dL_law_193 (by decide) ?_
  refine lv_iadd hx hb dL_law_194 ?_
  refine x_top (show (nI i) + 3 = nI (i + 3) from nI_add i 3) ?_
  refine va_sld hx hb hX hbl hbA G.2 (vp_in_nI (show i + 3 < L by omega) (by omega)) dL_law_195 ?_
  rw [nI_clamp (show i + 3 < 2 ^ 31 by omega)]
  refine lv_aload_n hx hb dL_law_196 rfl (lv_at hl 1 rfl) ?_
  refine lv_iload hx hb dL_law_197 (lv_at hl 5 rfl) ?_
  refine lv_iconst (v := 4) hx hb dL_law_199 (by decide) ?_
  refine lv_iadd hx hb dL_law_200 ?_
  refine x_top (show (nI i) + 4 = nI (i + 4) from nI_add i 4) ?_
  refine va_sld hx hb hX hbl hbA G.2 (vp_in_nI (show i + 4 < L by omega) (by omega)) dL_law_201 ?_
  rw [nI_clamp (show i + 4 < 2 ^ 31 by omega)]
  refine lv_aload_n hx hb dL_law_202 rfl (lv_at hl 1 rfl) ?_
  refine lv_iload hx hb dL_law_203 (lv_at hl 5 rfl) ?_
  refine lv_iconst (v := 5) hx hb dL_law_205 (by decide) ?_
  refine lv_iadd hx hb dL_law_206 ?_
  refine x_top (show (nI i) + 5 = nI (i + 5) from nI_add i 5) ?_
  refine va_sld hx hb hX hbl hbA G.2 (vp_in_nI (show i + 5 < L by omega) (by omega)) dL_law_207 ?_
  rw [nI_clamp (show i + 5 < 2 ^ 31 by omega)]
  refine x_callViK (rest := []) (fun H1 => xW D sh1 ad1 V1 H1) (xB.of B hIm hAm) ⟨Gm1, G.2⟩ (fun H1 hz hk => (show xW D sh1 ad1 V1 _ from G.1).keepK hap1.symm hk) hM (cwV 5 B.1.2.2.2.2 gL_law_X3_send rfl rfl rfl (by decide +kernel) ⟨Nat.le_of_ble_eq_true rfl, Nat.le_of_ble_eq_true rfl⟩) (x_recv (xB.of B hIm hAm) ⟨Gm1, G.2⟩ 17 (q := (RX3, TX3, 21)) Mm.2.1.1 rfl) rfl hl.1 rfl (Nat.le_of_ble_eq_true rfl) ⟨by omega, by omega⟩ dL_law_208 (fun H2 locs Gc G2 => ?_)
  have Gm2 := G2.1
  have G : xG D sh1 ad1 A s.heap V1 H2 locs := ⟨Gc, G2.2⟩
  refine lv_istore (lv' := [(6, .int o), (5, .int r), (0, .ref b), (1, .ref (ad1 0)), (2, .ref (adm 17)), (3, .ref (ad1 16)), (4, .int (nI i))]) hx hb dL_law_211 hl (by decide) rfl (fun ls hl => ?_)
  refine lv_aload_n hx hb dL_law_213 rfl (lv_at hl 4 rfl) ?_
  refine x_callViK (rest := []) (fun H1 => xW D sh1 ad1 V1 H1) (xB.of B hIm hAm) ⟨Gm2, G.2⟩ (fun H1 hz hk => (show xW D sh1 ad1 V1 _ from G.1).keepK hap1.symm hk) (c_X3_thrown l Mm Vm') (cwV 0 B.1.2.2.2.2 gL_law_X3_thrown rfl rfl rfl (by decide +kernel) ⟨Nat.le_of_ble_eq_true rfl, Nat.le_of_ble_eq_true rfl⟩) (x_recv (xB.of B hIm hAm) ⟨Gm2, G.2⟩ 17 (q := (RX3, TX3, 21)) Mm.2.1.1 rfl) rfl hl.1 rfl (Nat.le_of_ble_eq_true rfl) ⟨by omega, by omega⟩ dL_law_214 (fun H3 locs Gc G3 => ?_)
  have Gm3 := G3.1
  have G : xG D sh1 ad1 A s.heap V1 H3 locs := ⟨Gc, G3.2⟩
  refine lv_iload hx hb dL_law_217 (lv_at hl 1 rfl) ?_
  refine lv_icmp_eq (tgt := 224) hx hb dL_law_219 (by decide) (fun c_219 => ?_) (fun c_219 => ?_)
  · skip
    refine lv_iload hx hb dL_law_224 (lv_at hl 1 rfl) ?_
    refine lv_if_ne (tgt := 241) hx hb dL_law_226 (by decide) (fun c_226 => ?_) (fun c_226 => ?_)
    · skip
      refine lv_goto (tgt := 1417) hx hb dL_law_241 (by decide) ?_
      have hl := lv_sub (l' := [(0, .ref b), (1, .ref (ad1 0)), (2, .ref (adm 17)), (3, .ref (ad1 16)), (4, .int (nI i))]) hl [2, 3, 4, 5, 6] rfl
      exact cont sh1 ad1 V1 Vm' H3 locs ls ⟨B, G, Gm3, hap1, hLI1, hDo1, hl⟩
    · skip
      refine lv_aload_n hx hb dL_law_229 rfl (lv_at hl 5 rfl) ?_
      refine lv_iconst (v := 0) hx hb dL_law_230 (by decide) ?_
      refine x_lld B G hDo1.2 hT3 dL_law_231 ?_
      refine lv_iload hx hb dL_law_232 (lv_at hl 0 rfl) ?_
      refine lv_i2l hx hb dL_law_234 rfl ?_
      refine W.lcmp hx hb dL_law_235 ?_
      refine x_top (show _ = 0 from l_cmp0 (by rw [hans c_226])) ?_
      refine lv_if_eq (tgt := 241) hx hb dL_law_236 (by decide) (fun c_236 => ?_) (fun c_236 => ?_)
      · skip
        refine lv_goto (tgt := 1417) hx hb dL_law_241 (by decide) ?_
        have hl := lv_sub (l' := [(0, .ref b), (1, .ref (ad1 0)), (2, .ref (adm 17)), (3, .ref (ad1 16)), (4, .int (nI i))]) hl [2, 3, 4, 5, 6] rfl
        exact cont sh1 ad1 V1 Vm' H3 locs ls ⟨B, G, Gm3, hap1, hLI1, hDo1, hl⟩
      · exact False.elim (c_236 (by decide))
  · exact False.elim (c_219 hthr)
set_option maxHeartbeats 1000000 in
set_option maxRecDepth 100000 in
theorem law_meet {p : Program} (l : Launch) {e : Env} {s : State} {m : MethodId} {args : Array Value} {below : List Frame} {meth : Method} {c : Code} {A : Nat → Prop} {D : va_G} {tys : List (ClassId × FieldType)} {cI cJ : ClassId} {mi e0 : Nat} {sa : Nat → Nat} {shm : xS} {adm : Nat → Nat} {LI : Nat → xS → (Nat → Nat) → xV → xV → Prop} {b L : Nat} {xs : Nat → Int32} {Q : State → Prop} (E : xE mi e0 A s s.heap) (F : xF sa A s s.heap) (hN : xN s) (hX : va_X b L xs s s.heap) (hbl : b < s.heap.size) (hbA : ¬ A b) (hL : L ≤ 3072) (Mm : xMm shm adm cI tys) (hAm : ∀ (i : Nat) (mk : (Nat → Int32) → va_E), shm i = some mk → A (adm i)) (hT3 : tys[3]? = some (cJ, .long)) (hDo9 : ∀ t sh ad V Vm, LI t sh ad V Vm → xDo sh ad cI ∧ sh 16 = some (oMk cJ))
    (hP : LawP l D tys mi e0 sa shm adm LI yL_meet wsL_meet yX3_meet wsX3_meet 4 3) {t i cells slots : Nat} (ht : t < 512) (hi : i + 6 ≤ L) (hcs : cells + 8 ≤ room_1.cells ∧ slots + 180 ≤ room_1.slots) {sh : xS} {ad : Nat → Nat} {V Vm : xV} {H : Heap} {locs : List Loc} {ls : Array Slot} (hS : LSt D tys cI cJ shm adm LI b p s m args meth c A t i sh ad V Vm H locs ls)
    (cont : ∀ (sh : xS) (ad : Nat → Nat) (V Vm : xV) (H : Heap) (locs : List Loc) (ls : Array Slot), LSt D tys cI cJ shm adm LI b p s m args meth c A (t + 1) i sh ad V Vm H locs ls → W p l e room_1 s m args below meth c H locs (cells + 8) (slots + 180) Q (F0 m 1417 ls [])) :
    W p l e room_1 s m args below meth c H locs cells slots Q (F0 m 244 ls []) := by
  obtain ⟨B, G, Gm, hap, hLI, hDo, hl⟩ := hS
  have hx := B.1.1
  have hb := B.1.2.1
  have hIm := Mm.2.2
  have hcc : room_1.cells = 601024 := rfl
  have hcd : room_1.slots = 7293034 := rfl
  obtain ⟨r, o, Vm', hW, hM, hthr⟩ := hP t sh ad V Vm [xs (i + 1), xs (i + 2), xs (i + 3)] rfl ht hLI
  refine lv_aload_n hx hb dL_law_244 rfl (lv_at hl 1 rfl) ?_
  refine lv_aload_n hx hb dL_law_245 rfl (lv_at hl 0 rfl) ?_
  refine lv_iload hx hb dL_law_246 (lv_at hl 4 rfl) ?_
  refine lv_iconst (v := 1) hx hb dL_law_248 (by decide) ?_
  refine lv_iadd hx hb dL_law_249 ?_
  refine x_top (show (nI i) + 1 = nI (i + 1) from nI_add i 1) ?_
  refine va_sld hx hb hX hbl hbA G.2 (vp_in_nI (show i + 1 < L by omega) (by omega)) dL_law_250 ?_
  rw [nI_clamp (show i + 1 < 2 ^ 31 by omega)]
  refine lv_aload_n hx hb dL_law_251 rfl (lv_at hl 0 rfl) ?_
  refine lv_iload hx hb dL_law_252 (lv_at hl 4 rfl) ?_
  refine lv_iconst (v := 2) hx hb dL_law_254 (by decide) ?_
  refine lv_iadd hx hb dL_law_255 ?_
  refine x_top (show (nI i) + 2 = nI (i + 2) from nI_add i 2) ?_
  refine va_sld hx hb hX hbl hbA G.2 (vp_in_nI (show i + 2 < L by omega) (by omega)) dL_law_256 ?_
  rw [nI_clamp (show i + 2 < 2 ^ 31 by omega)]
  refine lv_aload_n hx hb dL_law_257 rfl (lv_at hl 0 rfl) ?_
  refine lv_iload hx hb dL_law_258 (lv_at hl 4 rfl) ?_
  refine lv_iconst (v := 3) hx hb dL_law_260 (by decide) ?_
  refine lv_iadd hx hb dL_law_261 ?_
  refine x_top (show (nI i) + 3 = nI (i + 3) from nI_add i 3) ?_
  refine va_sld hx hb hX hbl hbA G.2 (vp_in_nI (show i + 3 < L by omega) (by omega)) dL_law_262 ?_
  rw [nI_clamp (show i + 3 < 2 ^ 31 by omega)]
  refine lv_aload_n hx hb dL_law_263 rfl (lv_at hl 3 rfl) ?_
  refine x_callSw (rest := []) (fun H1 => xW D shm adm Vm H1) B E F hN G (fun H1 hz hk => Gm.keepK hap hk) hW (vx_cwSW 5 B.1.2.2.2.2 gL_law_L_meet rfl rfl rfl (by decide +kernel) ⟨Nat.le_of_ble_eq_true rfl, Nat.le_of_ble_eq_true rfl⟩) rfl hl.1 rfl (Nat.le_of_ble_eq_true rfl) hcs dL_law_264 (fun v sh1 ad1 V1 H1 locs hR Gm1 hA1 B G => ?_)
  obtain ⟨rfl, hLI1, e_0, e_16, hans⟩ := hR
  have hap1 := hap.after Gm hA1
  have hDo1 := hDo9 _ _ _ _ _ hLI1
  have hl : lv_has ls 7 [(0, .ref b), (1, .ref (ad1 0)), (2, .ref (adm 17)), (3, .ref (ad1 16)), (4, .int (nI i))] := lv_cast hl (by rw [e_0, e_16])
  refine W.eq (g2 := F0 m 267 ls [.int r]) rfl ?_
  refine lv_istore (lv' := [(5, .int r), (0, .ref b), (1, .ref (ad1 0)), (2, .ref (adm 17)), (3, .ref (ad1 16)), (4, .int (nI i))]) hx hb dL_law_267 hl (by decide) rfl (fun ls hl => ?_)
  refine lv_aload_n hx hb dL_law_269 rfl (lv_at hl 3 rfl) ?_
  refine lv_aload_n hx hb dL_law_270 rfl (lv_at hl 1 rfl) ?_
  refine lv_iload hx hb dL_law_271 (lv_at hl 5 rfl) ?_
  refine lv_iconst (v := 1) hx hb dL_law_273 (by decide) ?_
  refine lv_iadd hx hb dL_law_274 ?_
  refine x_top (show (nI i) + 1 = nI (i + 1) from nI_add i 1) ?_
  refine va_sld hx hb hX hbl hbA G.2 (vp_in_nI (show i + 1 < L by omega) (by omega)) dL_law_275 ?_
  rw [nI_clamp (show i + 1 < 2 ^ 31 by omega)]
  refine lv_aload_n hx hb dL_law_276 rfl (lv_at hl 1 rfl) ?_
  refine lv_iload hx hb dL_law_277 (lv_at hl 5 rfl) ?_
  refine lv_iconst (v := 2) hx hb dL_law_279 (by decide) ?_
  refine lv_iadd hx hb dL_law_280 ?_
  refine x_top (show (nI i) + 2 = nI (i + 2) from nI_add i 2) ?_
  refine va_sld hx hb hX hbl hbA G.2 (vp_in_nI (show i + 2 < L by omega) (by omega)) dL_law_281 ?_
  rw [nI_clamp (show i + 2 < 2 ^ 31 by omega)]
  refine lv_aload_n hx hb dL_law_282 rfl (lv_at hl 1 rfl) ?_
  refine lv_iload hx hb dL_law_283 (lv_at hl 5 rfl) ?_
  refine lv_iconst (v := 3) hx hb dL_law_285 (by decide) ?_
  refine lv_iadd hx hb dL_law_286 ?_
  refine x_top (show (nI i) + 3 = nI (i + 3) from nI_add i 3) ?_
  refine va_sld hx hb hX hbl hbA G.2 (vp_in_nI (show i + 3 < L by omega) (by omega)) dL_law_287 ?_
  rw [nI_clamp (show i + 3 < 2 ^ 31 by omega)]
  refine x_callViK (rest := []) (fun H1 => xW D sh1 ad1 V1 H1) (xB.of B hIm hAm) ⟨Gm1, G.2⟩ (fun H1 hz hk => (show xW D sh1 ad1 V1 _ from G.1).keepK hap1.symm hk) hM (cwV 3 B.1.2.2.2.2 gL_law_X3_meet rfl rfl rfl (by decide +kernel) ⟨Nat.le_of_ble_eq_true rfl, Nat.le_of_ble_eq_true rfl⟩) (x_recv (xB.of B hIm hAm) ⟨Gm1, G.2⟩ 17 (q := (RX3, TX3, 21)) Mm.2.1.1 rfl) rfl hl.1 rfl (Nat.le_of_ble_eq_true rfl) ⟨by omega, by omega⟩ dL_law_288 (fun H2 locs Gc G2 => ?_)
  have Gm2 := G2.1
  have G : xG D sh1 ad1 A s.heap V1 H2 locs := ⟨Gc, G2.2⟩
  refine lv_istore (lv' := [(6, .int o), (5, .int r), (0, .ref b), (1, .ref (ad1 0)), (2, .ref (adm 17)), (3, .ref (ad1 16)), (4, .int (nI i))]) hx hb dL_law_291 hl (by decide) rfl (fun ls hl => ?_)
  refine lv_aload_n hx hb dL_law_293 rfl (lv_at hl 4 rfl) ?_
  refine x_callViK (rest := []) (fun H1 => xW D sh1 ad1 V1 H1) (xB.of B hIm hAm) ⟨Gm2, G.2⟩ (fun H1 hz hk => (show xW D sh1 ad1 V1 _ from G.1).keepK hap1.symm hk) (c_X3_thrown l Mm Vm') (cwV 0 B.1.2.2.2.2 gL_law_X3_thrown rfl rfl rfl (by decide +kernel) ⟨Nat.le_of_ble_eq_true rfl, Nat.le_of_ble_eq_true rfl⟩) (x_recv (xB.of B hIm hAm) ⟨Gm2, G.2⟩ 17 (q := (RX3, TX3, 21)) Mm.2.1.1 rfl) rfl hl.1 rfl (Nat.le_of_ble_eq_true rfl) ⟨by omega, by omega⟩ dL_law_294 (fun H3 locs Gc G3 => ?_)
  have Gm3 := G3.1
  have G : xG D sh1 ad1 A s.heap V1 H3 locs := ⟨Gc, G3.2⟩
  refine lv_iload hx hb dL_law_297 (lv_at hl 1 rfl) ?_
  refine lv_icmp_eq (tgt := 304) hx hb dL_law_299 (by decide) (fun c_299 => ?_) (fun c_299 => ?_)
  · skip
    refine lv_iload hx hb dL_law_304 (lv_at hl 1 rfl) ?_
    refine lv_if_ne (tgt := 321) hx hb dL_law_306 (by decide) (fun c_306 => ?_) (fun c_306 => ?_)
    · skip
      refine lv_goto (tgt := 1417) hx hb dL_law_321 (by decide) ?_
      have hl := lv_sub (l' := [(0, .ref b), (1, .ref (ad1 0)), (2, .ref (adm 17)), (3, .ref (ad1 16)), (4, .int (nI i))]) hl [2, 3, 4, 5, 6] rfl
      exact cont sh1 ad1 V1 Vm' H3 locs ls ⟨B, G, Gm3, hap1, hLI1, hDo1, hl⟩
    · skip
      refine lv_aload_n hx hb dL_law_309 rfl (lv_at hl 5 rfl) ?_
      refine lv_iconst (v := 0) hx hb dL_law_310 (by decide) ?_
      refine x_lld B G hDo1.2 hT3 dL_law_311 ?_
      refine lv_iload hx hb dL_law_312 (lv_at hl 0 rfl) ?_
      refine lv_i2l hx hb dL_law_314 rfl ?_
      refine W.lcmp hx hb dL_law_315 ?_
      refine x_top (show _ = 0 from l_cmp0 (by rw [hans c_306])) ?_
      refine lv_if_eq (tgt := 321) hx hb dL_law_316 (by decide) (fun c_316 => ?_) (fun c_316 => ?_)
      · skip
        refine lv_goto (tgt := 1417) hx hb dL_law_321 (by decide) ?_
        have hl := lv_sub (l' := [(0, .ref b), (1, .ref (ad1 0)), (2, .ref (adm 17)), (3, .ref (ad1 16)), (4, .int (nI i))]) hl [2, 3, 4, 5, 6] rfl
        exact cont sh1 ad1 V1 Vm' H3 locs ls ⟨B, G, Gm3, hap1, hLI1, hDo1, hl⟩
      · exact False.elim (c_316 (by decide))
  · exact False.elim (c_299 hthr)
set_option maxHeartbeats 1000000 in
set_option maxRecDepth 100000 in
theorem law_pass {p : Program} (l : Launch) {e : Env} {s : State} {m : MethodId} {args : Array Value} {below : List Frame} {meth : Method} {c : Code} {A : Nat → Prop} {D : va_G} {tys : List (ClassId × FieldType)} {cI cJ : ClassId} {mi e0 : Nat} {sa : Nat → Nat} {shm : xS} {adm : Nat → Nat} {LI : Nat → xS → (Nat → Nat) → xV → xV → Prop} {b L : Nat} {xs : Nat → Int32} {Q : State → Prop} (E : xE mi e0 A s s.heap) (F : xF sa A s s.heap) (hN : xN s) (hX : va_X b L xs s s.heap) (hbl : b < s.heap.size) (hbA : ¬ A b) (hL : L ≤ 3072) (Mm : xMm shm adm cI tys) (hAm : ∀ (i : Nat) (mk : (Nat → Int32) → va_E), shm i = some mk → A (adm i)) (hT3 : tys[3]? = some (cJ, .long)) (hDo9 : ∀ t sh ad V Vm, LI t sh ad V Vm → xDo sh ad cI ∧ sh 16 = some (oMk cJ))
    (hP : LawP l D tys mi e0 sa shm adm LI yL_pass wsL_pass yX3_pass wsX3_pass 2 1) {t i cells slots : Nat} (ht : t < 512) (hi : i + 6 ≤ L) (hcs : cells + 8 ≤ room_1.cells ∧ slots + 180 ≤ room_1.slots) {sh : xS} {ad : Nat → Nat} {V Vm : xV} {H : Heap} {locs : List Loc} {ls : Array Slot} (hS : LSt D tys cI cJ shm adm LI b p s m args meth c A t i sh ad V Vm H locs ls)
    (cont : ∀ (sh : xS) (ad : Nat → Nat) (V Vm : xV) (H : Heap) (locs : List Loc) (ls : Array Slot), LSt D tys cI cJ shm adm LI b p s m args meth c A (t + 1) i sh ad V Vm H locs ls → W p l e room_1 s m args below meth c H locs (cells + 8) (slots + 180) Q (F0 m 1417 ls [])) :
    W p l e room_1 s m args below meth c H locs cells slots Q (F0 m 324 ls []) := by
  obtain ⟨B, G, Gm, hap, hLI, hDo, hl⟩ := hS
  have hx := B.1.1
  have hb := B.1.2.1
  have hIm := Mm.2.2
  have hcc : room_1.cells = 601024 := rfl
  have hcd : room_1.slots = 7293034 := rfl
  obtain ⟨r, o, Vm', hW, hM, hthr⟩ := hP t sh ad V Vm [xs (i + 1)] rfl ht hLI
  refine lv_aload_n hx hb dL_law_324 rfl (lv_at hl 1 rfl) ?_
  refine lv_aload_n hx hb dL_law_325 rfl (lv_at hl 0 rfl) ?_
  refine lv_iload hx hb dL_law_326 (lv_at hl 4 rfl) ?_
  refine lv_iconst (v := 1) hx hb dL_law_328 (by decide) ?_
  refine lv_iadd hx hb dL_law_329 ?_
  refine x_top (show (nI i) + 1 = nI (i + 1) from nI_add i 1) ?_
  refine va_sld hx hb hX hbl hbA G.2 (vp_in_nI (show i + 1 < L by omega) (by omega)) dL_law_330 ?_
  rw [nI_clamp (show i + 1 < 2 ^ 31 by omega)]
  refine lv_aload_n hx hb dL_law_331 rfl (lv_at hl 3 rfl) ?_
  refine x_callSw (rest := []) (fun H1 => xW D shm adm Vm H1) B E F hN G (fun H1 hz hk => Gm.keepK hap hk) hW (vx_cwSW 3 B.1.2.2.2.2 gL_law_L_pass rfl rfl rfl (by decide +kernel) ⟨Nat.le_of_ble_eq_true rfl, Nat.le_of_ble_eq_true rfl⟩) rfl hl.1 rfl (Nat.le_of_ble_eq_true rfl) hcs dL_law_332 (fun v sh1 ad1 V1 H1 locs hR Gm1 hA1 B G => ?_)
  obtain ⟨rfl, hLI1, e_0, e_16, hans⟩ := hR
  have hap1 := hap.after Gm hA1
  have hDo1 := hDo9 _ _ _ _ _ hLI1
  have hl : lv_has ls 7 [(0, .ref b), (1, .ref (ad1 0)), (2, .ref (adm 17)), (3, .ref (ad1 16)), (4, .int (nI i))] := lv_cast hl (by rw [e_0, e_16])
  refine W.eq (g2 := F0 m 335 ls [.int r]) rfl ?_
  refine lv_istore (lv' := [(5, .int r), (0, .ref b), (1, .ref (ad1 0)), (2, .ref (adm 17)), (3, .ref (ad1 16)), (4, .int (nI i))]) hx hb dL_law_335 hl (by decide) rfl (fun ls hl => ?_)
  refine lv_aload_n hx hb dL_law_337 rfl (lv_at hl 3 rfl) ?_
  refine lv_aload_n hx hb dL_law_338 rfl (lv_at hl 1 rfl) ?_
  refine lv_iload hx hb dL_law_339 (lv_at hl 5 rfl) ?_
  refine lv_iconst (v := 1) hx hb dL_law_341 (by decide) ?_
  refine lv_iadd hx hb dL_law_342 ?_
  refine x_top (show (nI i) + 1 = nI (i + 1) from nI_add i 1) ?_
  refine va_sld hx hb hX hbl hbA G.2 (vp_in_nI (show i + 1 < L by omega) (by omega)) dL_law_343 ?_
  rw [nI_clamp (show i + 1 < 2 ^ 31 by omega)]
  refine x_callViK (rest := []) (fun H1 => xW D sh1 ad1 V1 H1) (xB.of B hIm hAm) ⟨Gm1, G.2⟩ (fun H1 hz hk => (show xW D sh1 ad1 V1 _ from G.1).keepK hap1.symm hk) hM (cwV 1 B.1.2.2.2.2 gL_law_X3_pass rfl rfl rfl (by decide +kernel) ⟨Nat.le_of_ble_eq_true rfl, Nat.le_of_ble_eq_true rfl⟩) (x_recv (xB.of B hIm hAm) ⟨Gm1, G.2⟩ 17 (q := (RX3, TX3, 21)) Mm.2.1.1 rfl) rfl hl.1 rfl (Nat.le_of_ble_eq_true rfl) ⟨by omega, by omega⟩ dL_law_344 (fun H2 locs Gc G2 => ?_)
  have Gm2 := G2.1
  have G : xG D sh1 ad1 A s.heap V1 H2 locs := ⟨Gc, G2.2⟩
  refine lv_istore (lv' := [(6, .int o), (5, .int r), (0, .ref b), (1, .ref (ad1 0)), (2, .ref (adm 17)), (3, .ref (ad1 16)), (4, .int (nI i))]) hx hb dL_law_347 hl (by decide) rfl (fun ls hl => ?_)
  refine lv_aload_n hx hb dL_law_349 rfl (lv_at hl 4 rfl) ?_
  refine x_callViK (rest := []) (fun H1 => xW D sh1 ad1 V1 H1) (xB.of B hIm hAm) ⟨Gm2, G.2⟩ (fun H1 hz hk => (show xW D sh1 ad1 V1 _ from G.1).keepK hap1.symm hk) (c_X3_thrown l Mm Vm') (cwV 0 B.1.2.2.2.2 gL_law_X3_thrown rfl rfl rfl (by decide +kernel) ⟨Nat.le_of_ble_eq_true rfl, Nat.le_of_ble_eq_true rfl⟩) (x_recv (xB.of B hIm hAm) ⟨Gm2, G.2⟩ 17 (q := (RX3, TX3, 21)) Mm.2.1.1 rfl) rfl hl.1 rfl (Nat.le_of_ble_eq_true rfl) ⟨by omega, by omega⟩ dL_law_350 (fun H3 locs Gc G3 => ?_)
  have Gm3 := G3.1
  have G : xG D sh1 ad1 A s.heap V1 H3 locs := ⟨Gc, G3.2⟩
  refine lv_iload hx hb dL_law_353 (lv_at hl 1 rfl) ?_
  refine lv_icmp_eq (tgt := 360) hx hb dL_law_355 (by decide) (fun c_355 => ?_) (fun c_355 => ?_)
  · skip
    refine lv_iload hx hb dL_law_360 (lv_at hl 1 rfl) ?_
    refine lv_if_ne (tgt := 377) hx hb dL_law_362 (by decide) (fun c_362 => ?_) (fun c_362 => ?_)
    · skip
      refine lv_goto (tgt := 1417) hx hb dL_law_377 (by decide) ?_
      have hl := lv_sub (l' := [(0, .ref b), (1, .ref (ad1 0)), (2, .ref (adm 17)), (3, .ref (ad1 16)), (4, .int (nI i))]) hl [2, 3, 4, 5, 6] rfl
      exact cont sh1 ad1 V1 Vm' H3 locs ls ⟨B, G, Gm3, hap1, hLI1, hDo1, hl⟩
    · skip
      refine lv_aload_n hx hb dL_law_365 rfl (lv_at hl 5 rfl) ?_
      refine lv_iconst (v := 0) hx hb dL_law_366 (by decide) ?_
      refine x_lld B G hDo1.2 hT3 dL_law_367 ?_
      refine lv_iload hx hb dL_law_368 (lv_at hl 0 rfl) ?_
      refine lv_i2l hx hb dL_law_370 rfl ?_
      refine W.lcmp hx hb dL_law_371 ?_
      refine x_top (show _ = 0 from l_cmp0 (by rw [hans c_362])) ?_
      refine lv_if_eq (tgt := 377) hx hb dL_law_372 (by decide) (fun c_372 => ?_) (fun c_372 => ?_)
      · skip
        refine lv_goto (tgt := 1417) hx hb dL_law_377 (by decide) ?_
        have hl := lv_sub (l' := [(0, .ref b), (1, .ref (ad1 0)), (2, .ref (adm 17)), (3, .ref (ad1 16)), (4, .int (nI i))]) hl [2, 3, 4, 5, 6] rfl
        exact cont sh1 ad1 V1 Vm' H3 locs ls ⟨B, G, Gm3, hap1, hLI1, hDo1, hl⟩
      · exact False.elim (c_372 (by decide))
  · exact False.elim (c_355 hthr)
set_option maxHeartbeats 1000000 in
set_option maxRecDepth 100000 in
theorem law_setBuffer {p : Program} (l : Launch) {e : Env} {s : State} {m : MethodId} {args : Array Value} {below : List Frame} {meth : Method} {c : Code} {A : Nat → Prop} {D : va_G} {tys : List (ClassId × FieldType)} {cI cJ : ClassId} {mi e0 : Nat} {sa : Nat → Nat} {shm : xS} {adm : Nat → Nat} {LI : Nat → xS → (Nat → Nat) → xV → xV → Prop} {b L : Nat} {xs : Nat → Int32} {Q : State → Prop} (E : xE mi e0 A s s.heap) (F : xF sa A s s.heap) (hN : xN s) (hX : va_X b L xs s s.heap) (hbl : b < s.heap.size) (hbA : ¬ A b) (hL : L ≤ 3072) (Mm : xMm shm adm cI tys) (hAm : ∀ (i : Nat) (mk : (Nat → Int32) → va_E), shm i = some mk → A (adm i)) (hT3 : tys[3]? = some (cJ, .long)) (hDo9 : ∀ t sh ad V Vm, LI t sh ad V Vm → xDo sh ad cI ∧ sh 16 = some (oMk cJ))
    (hP : LawP l D tys mi e0 sa shm adm LI yL_setBuffer wsL_setBuffer yX3_setBuffer wsX3_setBuffer 2 2) {t i cells slots : Nat} (ht : t < 512) (hi : i + 6 ≤ L) (hcs : cells + 8 ≤ room_1.cells ∧ slots + 180 ≤ room_1.slots) {sh : xS} {ad : Nat → Nat} {V Vm : xV} {H : Heap} {locs : List Loc} {ls : Array Slot} (hS : LSt D tys cI cJ shm adm LI b p s m args meth c A t i sh ad V Vm H locs ls)
    (cont : ∀ (sh : xS) (ad : Nat → Nat) (V Vm : xV) (H : Heap) (locs : List Loc) (ls : Array Slot), LSt D tys cI cJ shm adm LI b p s m args meth c A (t + 1) i sh ad V Vm H locs ls → W p l e room_1 s m args below meth c H locs (cells + 8) (slots + 180) Q (F0 m 1417 ls [])) :
    W p l e room_1 s m args below meth c H locs cells slots Q (F0 m 380 ls []) := by
  obtain ⟨B, G, Gm, hap, hLI, hDo, hl⟩ := hS
  have hx := B.1.1
  have hb := B.1.2.1
  have hIm := Mm.2.2
  have hcc : room_1.cells = 601024 := rfl
  have hcd : room_1.slots = 7293034 := rfl
  obtain ⟨r, o, Vm', hW, hM, hthr⟩ := hP t sh ad V Vm [xs (i + 1), xs (i + 2)] rfl ht hLI
  refine lv_aload_n hx hb dL_law_380 rfl (lv_at hl 1 rfl) ?_
  refine lv_aload_n hx hb dL_law_381 rfl (lv_at hl 0 rfl) ?_
  refine lv_iload hx hb dL_law_382 (lv_at hl 4 rfl) ?_
  refine lv_iconst (v := 1) hx hb dL_law_384 (by decide) ?_
  refine lv_iadd hx hb dL_law_385 ?_
  refine x_top (show (nI i) + 1 = nI (i + 1) from nI_add i 1) ?_
  refine va_sld hx hb hX hbl hbA G.2 (vp_in_nI (show i + 1 < L by omega) (by omega)) dL_law_386 ?_
  rw [nI_clamp (show i + 1 < 2 ^ 31 by omega)]
  refine lv_aload_n hx hb dL_law_387 rfl (lv_at hl 0 rfl) ?_
  refine lv_iload hx hb dL_law_388 (lv_at hl 4 rfl) ?_
  refine lv_iconst (v := 2) hx hb dL_law_390 (by decide) ?_
  refine lv_iadd hx hb dL_law_391 ?_
  refine x_top (show (nI i) + 2 = nI (i + 2) from nI_add i 2) ?_
  refine va_sld hx hb hX hbl hbA G.2 (vp_in_nI (show i + 2 < L by omega) (by omega)) dL_law_392 ?_
  rw [nI_clamp (show i + 2 < 2 ^ 31 by omega)]
  refine lv_aload_n hx hb dL_law_393 rfl (lv_at hl 3 rfl) ?_
  refine x_callSw (rest := []) (fun H1 => xW D shm adm Vm H1) B E F hN G (fun H1 hz hk => Gm.keepK hap hk) hW (vx_cwSW 4 B.1.2.2.2.2 gL_law_L_setBuffer rfl rfl rfl (by decide +kernel) ⟨Nat.le_of_ble_eq_true rfl, Nat.le_of_ble_eq_true rfl⟩) rfl hl.1 rfl (Nat.le_of_ble_eq_true rfl) hcs dL_law_394 (fun v sh1 ad1 V1 H1 locs hR Gm1 hA1 B G => ?_)
  obtain ⟨rfl, hLI1, e_0, e_16, hans⟩ := hR
  have hap1 := hap.after Gm hA1
  have hDo1 := hDo9 _ _ _ _ _ hLI1
  have hl : lv_has ls 7 [(0, .ref b), (1, .ref (ad1 0)), (2, .ref (adm 17)), (3, .ref (ad1 16)), (4, .int (nI i))] := lv_cast hl (by rw [e_0, e_16])
  refine W.eq (g2 := F0 m 397 ls [.int r]) rfl ?_
  refine lv_istore (lv' := [(5, .int r), (0, .ref b), (1, .ref (ad1 0)), (2, .ref (adm 17)), (3, .ref (ad1 16)), (4, .int (nI i))]) hx hb dL_law_397 hl (by decide) rfl (fun ls hl => ?_)
  refine lv_aload_n hx hb dL_law_399 rfl (lv_at hl 3 rfl) ?_
  refine lv_aload_n hx hb dL_law_400 rfl (lv_at hl 1 rfl) ?_
  refine lv_iload hx hb dL_law_401 (lv_at hl 5 rfl) ?_
  refine lv_iconst (v := 1) hx hb dL_law_403 (by decide) ?_
  refine lv_iadd hx hb dL_law_404 ?_
  refine x_top (show (nI i) + 1 = nI (i + 1) from nI_add i 1) ?_
  refine va_sld hx hb hX hbl hbA G.2 (vp_in_nI (show i + 1 < L by omega) (by omega)) dL_law_405 ?_
  rw [nI_clamp (show i + 1 < 2 ^ 31 by omega)]
  refine lv_aload_n hx hb dL_law_406 rfl (lv_at hl 1 rfl) ?_
  refine lv_iload hx hb dL_law_407 (lv_at hl 5 rfl) ?_
  refine lv_iconst (v := 2) hx hb dL_law_409 (by decide) ?_
  refine lv_iadd hx hb dL_law_410 ?_
  refine x_top (show (nI i) + 2 = nI (i + 2) from nI_add i 2) ?_
  refine va_sld hx hb hX hbl hbA G.2 (vp_in_nI (show i + 2 < L by omega) (by omega)) dL_law_411 ?_
  rw [nI_clamp (show i + 2 < 2 ^ 31 by omega)]
  refine x_callViK (rest := []) (fun H1 => xW D sh1 ad1 V1 H1) (xB.of B hIm hAm) ⟨Gm1, G.2⟩ (fun H1 hz hk => (show xW D sh1 ad1 V1 _ from G.1).keepK hap1.symm hk) hM (cwV 2 B.1.2.2.2.2 gL_law_X3_setBuffer rfl rfl rfl (by decide +kernel) ⟨Nat.le_of_ble_eq_true rfl, Nat.le_of_ble_eq_true rfl⟩) (x_recv (xB.of B hIm hAm) ⟨Gm1, G.2⟩ 17 (q := (RX3, TX3, 21)) Mm.2.1.1 rfl) rfl hl.1 rfl (Nat.le_of_ble_eq_true rfl) ⟨by omega, by omega⟩ dL_law_412 (fun H2 locs Gc G2 => ?_)
  have Gm2 := G2.1
  have G : xG D sh1 ad1 A s.heap V1 H2 locs := ⟨Gc, G2.2⟩
  refine lv_istore (lv' := [(6, .int o), (5, .int r), (0, .ref b), (1, .ref (ad1 0)), (2, .ref (adm 17)), (3, .ref (ad1 16)), (4, .int (nI i))]) hx hb dL_law_415 hl (by decide) rfl (fun ls hl => ?_)
  refine lv_aload_n hx hb dL_law_417 rfl (lv_at hl 4 rfl) ?_
  refine x_callViK (rest := []) (fun H1 => xW D sh1 ad1 V1 H1) (xB.of B hIm hAm) ⟨Gm2, G.2⟩ (fun H1 hz hk => (show xW D sh1 ad1 V1 _ from G.1).keepK hap1.symm hk) (c_X3_thrown l Mm Vm') (cwV 0 B.1.2.2.2.2 gL_law_X3_thrown rfl rfl rfl (by decide +kernel) ⟨Nat.le_of_ble_eq_true rfl, Nat.le_of_ble_eq_true rfl⟩) (x_recv (xB.of B hIm hAm) ⟨Gm2, G.2⟩ 17 (q := (RX3, TX3, 21)) Mm.2.1.1 rfl) rfl hl.1 rfl (Nat.le_of_ble_eq_true rfl) ⟨by omega, by omega⟩ dL_law_418 (fun H3 locs Gc G3 => ?_)
  have Gm3 := G3.1
  have G : xG D sh1 ad1 A s.heap V1 H3 locs := ⟨Gc, G3.2⟩
  refine lv_iload hx hb dL_law_421 (lv_at hl 1 rfl) ?_
  refine lv_icmp_eq (tgt := 428) hx hb dL_law_423 (by decide) (fun c_423 => ?_) (fun c_423 => ?_)
  · skip
    refine lv_iload hx hb dL_law_428 (lv_at hl 1 rfl) ?_
    refine lv_if_ne (tgt := 445) hx hb dL_law_430 (by decide) (fun c_430 => ?_) (fun c_430 => ?_)
    · skip
      refine lv_goto (tgt := 1417) hx hb dL_law_445 (by decide) ?_
      have hl := lv_sub (l' := [(0, .ref b), (1, .ref (ad1 0)), (2, .ref (adm 17)), (3, .ref (ad1 16)), (4, .int (nI i))]) hl [2, 3, 4, 5, 6] rfl
      exact cont sh1 ad1 V1 Vm' H3 locs ls ⟨B, G, Gm3, hap1, hLI1, hDo1, hl⟩
    · skip
      refine lv_aload_n hx hb dL_law_433 rfl (lv_at hl 5 rfl) ?_
      refine lv_iconst (v := 0) hx hb dL_law_434 (by decide) ?_
      refine x_lld B G hDo1.2 hT3 dL_law_435 ?_
      refine lv_iload hx hb dL_law_436 (lv_at hl 0 rfl) ?_
      refine lv_i2l hx hb dL_law_438 rfl ?_
      refine W.lcmp hx hb dL_law_439 ?_
      refine x_top (show _ = 0 from l_cmp0 (by rw [hans c_430])) ?_
      refine lv_if_eq (tgt := 445) hx hb dL_law_440 (by decide) (fun c_440 => ?_) (fun c_440 => ?_)
      · skip
        refine lv_goto (tgt := 1417) hx hb dL_law_445 (by decide) ?_
        have hl := lv_sub (l' := [(0, .ref b), (1, .ref (ad1 0)), (2, .ref (adm 17)), (3, .ref (ad1 16)), (4, .int (nI i))]) hl [2, 3, 4, 5, 6] rfl
        exact cont sh1 ad1 V1 Vm' H3 locs ls ⟨B, G, Gm3, hap1, hLI1, hDo1, hl⟩
      · exact False.elim (c_440 (by decide))
  · exact False.elim (c_423 hthr)
set_option maxHeartbeats 1000000 in
set_option maxRecDepth 100000 in
theorem law_addContact {p : Program} (l : Launch) {e : Env} {s : State} {m : MethodId} {args : Array Value} {below : List Frame} {meth : Method} {c : Code} {A : Nat → Prop} {D : va_G} {tys : List (ClassId × FieldType)} {cI cJ : ClassId} {mi e0 : Nat} {sa : Nat → Nat} {shm : xS} {adm : Nat → Nat} {LI : Nat → xS → (Nat → Nat) → xV → xV → Prop} {b L : Nat} {xs : Nat → Int32} {Q : State → Prop} (E : xE mi e0 A s s.heap) (F : xF sa A s s.heap) (hN : xN s) (hX : va_X b L xs s s.heap) (hbl : b < s.heap.size) (hbA : ¬ A b) (hL : L ≤ 3072) (Mm : xMm shm adm cI tys) (hAm : ∀ (i : Nat) (mk : (Nat → Int32) → va_E), shm i = some mk → A (adm i)) (hT3 : tys[3]? = some (cJ, .long)) (hDo9 : ∀ t sh ad V Vm, LI t sh ad V Vm → xDo sh ad cI ∧ sh 16 = some (oMk cJ))
    (hP : LawP l D tys mi e0 sa shm adm LI yL_addContact wsL_addContact yX3_addContact wsX3_addContact 2 4) {t i cells slots : Nat} (ht : t < 512) (hi : i + 6 ≤ L) (hcs : cells + 8 ≤ room_1.cells ∧ slots + 180 ≤ room_1.slots) {sh : xS} {ad : Nat → Nat} {V Vm : xV} {H : Heap} {locs : List Loc} {ls : Array Slot} (hS : LSt D tys cI cJ shm adm LI b p s m args meth c A t i sh ad V Vm H locs ls)
    (cont : ∀ (sh : xS) (ad : Nat → Nat) (V Vm : xV) (H : Heap) (locs : List Loc) (ls : Array Slot), LSt D tys cI cJ shm adm LI b p s m args meth c A (t + 1) i sh ad V Vm H locs ls → W p l e room_1 s m args below meth c H locs (cells + 8) (slots + 180) Q (F0 m 1417 ls [])) :
    W p l e room_1 s m args below meth c H locs cells slots Q (F0 m 448 ls []) := by
  obtain ⟨B, G, Gm, hap, hLI, hDo, hl⟩ := hS
  have hx := B.1.1
  have hb := B.1.2.1
  have hIm := Mm.2.2
  have hcc : room_1.cells = 601024 := rfl
  have hcd : room_1.slots = 7293034 := rfl
  obtain ⟨r, o, Vm', hW, hM, hthr⟩ := hP t sh ad V Vm [xs (i + 1), xs (i + 2), xs (i + 3), xs (i + 4)] rfl ht hLI
  refine lv_aload_n hx hb dL_law_448 rfl (lv_at hl 1 rfl) ?_
  refine lv_aload_n hx hb dL_law_449 rfl (lv_at hl 0 rfl) ?_
  refine lv_iload hx hb dL_law_450 (lv_at hl 4 rfl) ?_
  refine lv_iconst (v := 1) hx hb dL_law_452 (by decide) ?_
  refine lv_iadd hx hb dL_law_453 ?_
  refine x_top (show (nI i) + 1 = nI (i + 1) from nI_add i 1) ?_
  refine va_sld hx hb hX hbl hbA G.2 (vp_in_nI (show i + 1 < L by omega) (by omega)) dL_law_454 ?_
  rw [nI_clamp (show i + 1 < 2 ^ 31 by omega)]
  refine lv_aload_n hx hb dL_law_455 rfl (lv_at hl 0 rfl) ?_
  refine lv_iload hx hb dL_law_456 (lv_at hl 4 rfl) ?_
  refine lv_iconst (v := 2) hx hb dL_law_458 (by decide) ?_
  refine lv_iadd hx hb dL_law_459 ?_
  refine x_top (show (nI i) + 2 = nI (i + 2) from nI_add i 2) ?_
  refine va_sld hx hb hX hbl hbA G.2 (vp_in_nI (show i + 2 < L by omega) (by omega)) dL_law_460 ?_
  rw [nI_clamp (show i + 2 < 2 ^ 31 by omega)]
  refine lv_aload_n hx hb dL_law_461 rfl (lv_at hl 0 rfl) ?_
  refine lv_iload hx hb dL_law_462 (lv_at hl 4 rfl) ?_
  refine lv_iconst (v := 3) hx hb dL_law_464 (by decide) ?_
  refine lv_iadd hx hb dL_law_465 ?_
  refine x_top (show (nI i) + 3 = nI (i + 3) from nI_add i 3) ?_
  refine va_sld hx hb hX hbl hbA G.2 (vp_in_nI (show i + 3 < L by omega) (by omega)) dL_law_466 ?_
  rw [nI_clamp (show i + 3 < 2 ^ 31 by omega)]
  refine lv_aload_n hx hb dL_law_467 rfl (lv_at hl 0 rfl) ?_
  refine lv_iload hx hb dL_law_468 (lv_at hl 4 rfl) ?_
  refine lv_iconst (v := 4) hx hb dL_law_470 (by decide) ?_
  refine lv_iadd hx hb dL_law_471 ?_
  refine x_top (show (nI i) + 4 = nI (i + 4) from nI_add i 4) ?_
  refine va_sld hx hb hX hbl hbA G.2 (vp_in_nI (show i + 4 < L by omega) (by omega)) dL_law_472 ?_
  rw [nI_clamp (show i + 4 < 2 ^ 31 by omega)]
  refine lv_aload_n hx hb dL_law_473 rfl (lv_at hl 3 rfl) ?_
  refine x_callSw (rest := []) (fun H1 => xW D shm adm Vm H1) B E F hN G (fun H1 hz hk => Gm.keepK hap hk) hW (vx_cwSW 6 B.1.2.2.2.2 gL_law_L_addContact rfl rfl rfl (by decide +kernel) ⟨Nat.le_of_ble_eq_true rfl, Nat.le_of_ble_eq_true rfl⟩) rfl hl.1 rfl (Nat.le_of_ble_eq_true rfl) hcs dL_law_474 (fun v sh1 ad1 V1 H1 locs hR Gm1 hA1 B G => ?_)
  obtain ⟨rfl, hLI1, e_0, e_16, hans⟩ := hR
  have hap1 := hap.after Gm hA1
  have hDo1 := hDo9 _ _ _ _ _ hLI1
  have hl : lv_has ls 7 [(0, .ref b), (1, .ref (ad1 0)), (2, .ref (adm 17)), (3, .ref (ad1 16)), (4, .int (nI i))] := lv_cast hl (by rw [e_0, e_16])
  refine W.eq (g2 := F0 m 477 ls [.int r]) rfl ?_
  refine lv_istore (lv' := [(5, .int r), (0, .ref b), (1, .ref (ad1 0)), (2, .ref (adm 17)), (3, .ref (ad1 16)), (4, .int (nI i))]) hx hb dL_law_477 hl (by decide) rfl (fun ls hl => ?_)
  refine lv_aload_n hx hb dL_law_479 rfl (lv_at hl 3 rfl) ?_
  refine lv_aload_n hx hb dL_law_480 rfl (lv_at hl 1 rfl) ?_
  refine lv_iload hx hb dL_law_481 (lv_at hl 5 rfl) ?_
  refine lv_iconst (v := 1) hx hb dL_law_483 (by decide) ?_
  refine lv_iadd hx hb dL_law_484 ?_
  refine x_top (show (nI i) + 1 = nI (i + 1) from nI_add i 1) ?_
  refine va_sld hx hb hX hbl hbA G.2 (vp_in_nI (show i + 1 < L by omega) (by omega)) dL_law_485 ?_
  rw [nI_clamp (show i + 1 < 2 ^ 31 by omega)]
  refine lv_aload_n hx hb dL_law_486 rfl (lv_at hl 1 rfl) ?_
  refine lv_iload hx hb dL_law_487 (lv_at hl 5 rfl) ?_
  refine lv_iconst (v := 2) hx hb dL_law_489 (by decide) ?_
  refine lv_iadd hx hb dL_law_490 ?_
  refine x_top (show (nI i) + 2 = nI (i + 2) from nI_add i 2) ?_
  refine va_sld hx hb hX hbl hbA G.2 (vp_in_nI (show i + 2 < L by omega) (by omega)) dL_law_491 ?_
  rw [nI_clamp (show i + 2 < 2 ^ 31 by omega)]
  refine lv_aload_n hx hb dL_law_492 rfl (lv_at hl 1 rfl) ?_
  refine lv_iload hx hb dL_law_493 (lv_at hl 5 rfl) ?_
  refine lv_iconst (v := 3) hx hb dL_law_495 (by decide) ?_
  refine lv_iadd hx hb dL_law_496 ?_
  refine x_top (show (nI i) + 3 = nI (i + 3) from nI_add i 3) ?_
  refine va_sld hx hb hX hbl hbA G.2 (vp_in_nI (show i + 3 < L by omega) (by omega)) dL_law_497 ?_
  rw [nI_clamp (show i + 3 < 2 ^ 31 by omega)]
  refine lv_aload_n hx hb dL_law_498 rfl (lv_at hl 1 rfl) ?_
  refine lv_iload hx hb dL_law_499 (lv_at hl 5 rfl) ?_
  refine lv_iconst (v := 4) hx hb dL_law_501 (by decide) ?_
  refine lv_iadd hx hb dL_law_502 ?_
  refine x_top (show (nI i) + 4 = nI (i + 4) from nI_add i 4) ?_
  refine va_sld hx hb hX hbl hbA G.2 (vp_in_nI (show i + 4 < L by omega) (by omega)) dL_law_503 ?_
  rw [nI_clamp (show i + 4 < 2 ^ 31 by omega)]
  refine x_callViK (rest := []) (fun H1 => xW D sh1 ad1 V1 H1) (xB.of B hIm hAm) ⟨Gm1, G.2⟩ (fun H1 hz hk => (show xW D sh1 ad1 V1 _ from G.1).keepK hap1.symm hk) hM (cwV 4 B.1.2.2.2.2 gL_law_X3_addContact rfl rfl rfl (by decide +kernel) ⟨Nat.le_of_ble_eq_true rfl, Nat.le_of_ble_eq_true rfl⟩) (x_recv (xB.of B hIm hAm) ⟨Gm1, G.2⟩ 17 (q := (RX3, TX3, 21)) Mm.2.1.1 rfl) rfl hl.1 rfl (Nat.le_of_ble_eq_true rfl) ⟨by omega, by omega⟩ dL_law_504 (fun H2 locs Gc G2 => ?_)
  have Gm2 := G2.1
  have G : xG D sh1 ad1 A s.heap V1 H2 locs := ⟨Gc, G2.2⟩
  refine lv_istore (lv' := [(6, .int o), (5, .int r), (0, .ref b), (1, .ref (ad1 0)), (2, .ref (adm 17)), (3, .ref (ad1 16)), (4, .int (nI i))]) hx hb dL_law_507 hl (by decide) rfl (fun ls hl => ?_)
  refine lv_aload_n hx hb dL_law_509 rfl (lv_at hl 4 rfl) ?_
  refine x_callViK (rest := []) (fun H1 => xW D sh1 ad1 V1 H1) (xB.of B hIm hAm) ⟨Gm2, G.2⟩ (fun H1 hz hk => (show xW D sh1 ad1 V1 _ from G.1).keepK hap1.symm hk) (c_X3_thrown l Mm Vm') (cwV 0 B.1.2.2.2.2 gL_law_X3_thrown rfl rfl rfl (by decide +kernel) ⟨Nat.le_of_ble_eq_true rfl, Nat.le_of_ble_eq_true rfl⟩) (x_recv (xB.of B hIm hAm) ⟨Gm2, G.2⟩ 17 (q := (RX3, TX3, 21)) Mm.2.1.1 rfl) rfl hl.1 rfl (Nat.le_of_ble_eq_true rfl) ⟨by omega, by omega⟩ dL_law_510 (fun H3 locs Gc G3 => ?_)
  have Gm3 := G3.1
  have G : xG D sh1 ad1 A s.heap V1 H3 locs := ⟨Gc, G3.2⟩
  refine lv_iload hx hb dL_law_513 (lv_at hl 1 rfl) ?_
  refine lv_icmp_eq (tgt := 520) hx hb dL_law_515 (by decide) (fun c_515 => ?_) (fun c_515 => ?_)
  · skip
    refine lv_iload hx hb dL_law_520 (lv_at hl 1 rfl) ?_
    refine lv_if_ne (tgt := 537) hx hb dL_law_522 (by decide) (fun c_522 => ?_) (fun c_522 => ?_)
    · skip
      refine lv_goto (tgt := 1417) hx hb dL_law_537 (by decide) ?_
      have hl := lv_sub (l' := [(0, .ref b), (1, .ref (ad1 0)), (2, .ref (adm 17)), (3, .ref (ad1 16)), (4, .int (nI i))]) hl [2, 3, 4, 5, 6] rfl
      exact cont sh1 ad1 V1 Vm' H3 locs ls ⟨B, G, Gm3, hap1, hLI1, hDo1, hl⟩
    · skip
      refine lv_aload_n hx hb dL_law_525 rfl (lv_at hl 5 rfl) ?_
      refine lv_iconst (v := 0) hx hb dL_law_526 (by decide) ?_
      refine x_lld B G hDo1.2 hT3 dL_law_527 ?_
      refine lv_iload hx hb dL_law_528 (lv_at hl 0 rfl) ?_
      refine lv_i2l hx hb dL_law_530 rfl ?_
      refine W.lcmp hx hb dL_law_531 ?_
      refine x_top (show _ = 0 from l_cmp0 (by rw [hans c_522])) ?_
      refine lv_if_eq (tgt := 537) hx hb dL_law_532 (by decide) (fun c_532 => ?_) (fun c_532 => ?_)
      · skip
        refine lv_goto (tgt := 1417) hx hb dL_law_537 (by decide) ?_
        have hl := lv_sub (l' := [(0, .ref b), (1, .ref (ad1 0)), (2, .ref (adm 17)), (3, .ref (ad1 16)), (4, .int (nI i))]) hl [2, 3, 4, 5, 6] rfl
        exact cont sh1 ad1 V1 Vm' H3 locs ls ⟨B, G, Gm3, hap1, hLI1, hDo1, hl⟩
      · exact False.elim (c_532 (by decide))
  · exact False.elim (c_515 hthr)
set_option maxHeartbeats 1000000 in
set_option maxRecDepth 100000 in
theorem law_clock {p : Program} (l : Launch) {e : Env} {s : State} {m : MethodId} {args : Array Value} {below : List Frame} {meth : Method} {c : Code} {A : Nat → Prop} {D : va_G} {tys : List (ClassId × FieldType)} {cI cJ : ClassId} {mi e0 : Nat} {sa : Nat → Nat} {shm : xS} {adm : Nat → Nat} {LI : Nat → xS → (Nat → Nat) → xV → xV → Prop} {b L : Nat} {xs : Nat → Int32} {Q : State → Prop} (E : xE mi e0 A s s.heap) (F : xF sa A s s.heap) (hN : xN s) (hX : va_X b L xs s s.heap) (hbl : b < s.heap.size) (hbA : ¬ A b) (hL : L ≤ 3072) (Mm : xMm shm adm cI tys) (hAm : ∀ (i : Nat) (mk : (Nat → Int32) → va_E), shm i = some mk → A (adm i)) (hT3 : tys[3]? = some (cJ, .long)) (hDo9 : ∀ t sh ad V Vm, LI t sh ad V Vm → xDo sh ad cI ∧ sh 16 = some (oMk cJ))
    (hQ : LawQ l D tys shm adm LI yX2_clock wsX2_clock 4 yX3_clock wsX3_clock 1) {t i cells slots : Nat} (ht : t < 512) (hi : i + 6 ≤ L) (hcs : cells + 8 ≤ room_1.cells ∧ slots + 180 ≤ room_1.slots) {sh : xS} {ad : Nat → Nat} {V Vm : xV} {H : Heap} {locs : List Loc} {ls : Array Slot} (hS : LSt D tys cI cJ shm adm LI b p s m args meth c A t i sh ad V Vm H locs ls)
    (cont : ∀ (sh : xS) (ad : Nat → Nat) (V Vm : xV) (H : Heap) (locs : List Loc) (ls : Array Slot), LSt D tys cI cJ shm adm LI b p s m args meth c A (t + 1) i sh ad V Vm H locs ls → W p l e room_1 s m args below meth c H locs (cells + 8) (slots + 180) Q (F0 m 1417 ls [])) :
    W p l e room_1 s m args below meth c H locs cells slots Q (F0 m 540 ls []) := by
  obtain ⟨B, G, Gm, hap, hLI, hDo, hl⟩ := hS
  have hx := B.1.1
  have hb := B.1.2.1
  have hIm := Mm.2.2
  have hcc : room_1.cells = 601024 := rfl
  have hcd : room_1.slots = 7293034 := rfl
  obtain ⟨o, Vm', hC, hM, hL1⟩ := hQ t sh ad V Vm ht hLI
  refine lv_aload_n hx hb dL_law_540 rfl (lv_at hl 1 rfl) ?_
  refine x_callViK (rest := []) (fun H1 => xW D shm adm Vm H1) B G (fun H1 hz hk => Gm.keepK hap hk) hC (cwV 0 B.1.2.2.2.2 gL_law_X2_clock rfl rfl rfl (by decide +kernel) ⟨Nat.le_of_ble_eq_true rfl, Nat.le_of_ble_eq_true rfl⟩) (d_recv B G hDo.1) rfl hl.1 rfl (Nat.le_of_ble_eq_true rfl) ⟨by omega, by omega⟩ dL_law_541 (fun H locs Gm G => ?_)
  refine lv_aload_n hx hb dL_law_544 rfl (lv_at hl 2 rfl) ?_
  refine x_callViK (rest := [.int o]) (fun H1 => xW D sh ad V H1) (xB.of B hIm hAm) ⟨Gm, G.2⟩ (fun H1 hz hk => (show xW D sh ad V H from G.1).keepK hap.symm hk) hM (cwV 0 B.1.2.2.2.2 gL_law_X3_clock rfl rfl rfl (by decide +kernel) ⟨Nat.le_of_ble_eq_true rfl, Nat.le_of_ble_eq_true rfl⟩) (x_recv (xB.of B hIm hAm) ⟨Gm, G.2⟩ 17 (q := (RX3, TX3, 21)) Mm.2.1.1 rfl) rfl hl.1 rfl (Nat.le_of_ble_eq_true rfl) ⟨by omega, by omega⟩ dL_law_545 (fun H locs Gc G2 => ?_)
  have Gm := G2.1
  have G : xG D sh ad A s.heap V H locs := ⟨Gc, G2.2⟩
  refine lv_icmp_eq (tgt := 1417) hx hb dL_law_548 (by decide) (fun c_548 => ?_) (fun c_548 => ?_)
  · skip
    exact W.widen (by omega) (by omega) (cont sh ad V Vm' H locs ls ⟨B, G, Gm, hap, hL1, hDo, hl⟩)
  · exact False.elim (c_548 rfl)
set_option maxHeartbeats 1000000 in
set_option maxRecDepth 100000 in
theorem law_bundles {p : Program} (l : Launch) {e : Env} {s : State} {m : MethodId} {args : Array Value} {below : List Frame} {meth : Method} {c : Code} {A : Nat → Prop} {D : va_G} {tys : List (ClassId × FieldType)} {cI cJ : ClassId} {mi e0 : Nat} {sa : Nat → Nat} {shm : xS} {adm : Nat → Nat} {LI : Nat → xS → (Nat → Nat) → xV → xV → Prop} {b L : Nat} {xs : Nat → Int32} {Q : State → Prop} (E : xE mi e0 A s s.heap) (F : xF sa A s s.heap) (hN : xN s) (hX : va_X b L xs s s.heap) (hbl : b < s.heap.size) (hbA : ¬ A b) (hL : L ≤ 3072) (Mm : xMm shm adm cI tys) (hAm : ∀ (i : Nat) (mk : (Nat → Int32) → va_E), shm i = some mk → A (adm i)) (hT3 : tys[3]? = some (cJ, .long)) (hDo9 : ∀ t sh ad V Vm, LI t sh ad V Vm → xDo sh ad cI ∧ sh 16 = some (oMk cJ))
    (hQ : LawQ l D tys shm adm LI yX2_bundles wsX2_bundles 4 yX3_bundles wsX3_bundles 1) {t i cells slots : Nat} (ht : t < 512) (hi : i + 6 ≤ L) (hcs : cells + 8 ≤ room_1.cells ∧ slots + 180 ≤ room_1.slots) {sh : xS} {ad : Nat → Nat} {V Vm : xV} {H : Heap} {locs : List Loc} {ls : Array Slot} (hS : LSt D tys cI cJ shm adm LI b p s m args meth c A t i sh ad V Vm H locs ls)
    (cont : ∀ (sh : xS) (ad : Nat → Nat) (V Vm : xV) (H : Heap) (locs : List Loc) (ls : Array Slot), LSt D tys cI cJ shm adm LI b p s m args meth c A (t + 1) i sh ad V Vm H locs ls → W p l e room_1 s m args below meth c H locs (cells + 8) (slots + 180) Q (F0 m 1417 ls [])) :
    W p l e room_1 s m args below meth c H locs cells slots Q (F0 m 553 ls []) := by
  obtain ⟨B, G, Gm, hap, hLI, hDo, hl⟩ := hS
  have hx := B.1.1
  have hb := B.1.2.1
  have hIm := Mm.2.2
  have hcc : room_1.cells = 601024 := rfl
  have hcd : room_1.slots = 7293034 := rfl
  obtain ⟨o, Vm', hC, hM, hL1⟩ := hQ t sh ad V Vm ht hLI
  refine lv_aload_n hx hb dL_law_553 rfl (lv_at hl 1 rfl) ?_
  refine x_callViK (rest := []) (fun H1 => xW D shm adm Vm H1) B G (fun H1 hz hk => Gm.keepK hap hk) hC (cwV 0 B.1.2.2.2.2 gL_law_X2_bundles rfl rfl rfl (by decide +kernel) ⟨Nat.le_of_ble_eq_true rfl, Nat.le_of_ble_eq_true rfl⟩) (d_recv B G hDo.1) rfl hl.1 rfl (Nat.le_of_ble_eq_true rfl) ⟨by omega, by omega⟩ dL_law_554 (fun H locs Gm G => ?_)
  refine lv_aload_n hx hb dL_law_557 rfl (lv_at hl 2 rfl) ?_
  refine x_callViK (rest := [.int o]) (fun H1 => xW D sh ad V H1) (xB.of B hIm hAm) ⟨Gm, G.2⟩ (fun H1 hz hk => (show xW D sh ad V H from G.1).keepK hap.symm hk) hM (cwV 0 B.1.2.2.2.2 gL_law_X3_bundles rfl rfl rfl (by decide +kernel) ⟨Nat.le_of_ble_eq_true rfl, Nat.le_of_ble_eq_true rfl⟩) (x_recv (xB.of B hIm hAm) ⟨Gm, G.2⟩ 17 (q := (RX3, TX3, 21)) Mm.2.1.1 rfl) rfl hl.1 rfl (Nat.le_of_ble_eq_true rfl) ⟨by omega, by omega⟩ dL_law_558 (fun H locs Gc G2 => ?_)
  have Gm := G2.1
  have G : xG D sh ad A s.heap V H locs := ⟨Gc, G2.2⟩
  refine lv_icmp_eq (tgt := 1417) hx hb dL_law_561 (by decide) (fun c_561 => ?_) (fun c_561 => ?_)
  · skip
    exact W.widen (by omega) (by omega) (cont sh ad V Vm' H locs ls ⟨B, G, Gm, hap, hL1, hDo, hl⟩)
  · exact False.elim (c_561 rfl)
set_option maxHeartbeats 1000000 in
set_option maxRecDepth 100000 in
theorem law_endOf {p : Program} (l : Launch) {e : Env} {s : State} {m : MethodId} {args : Array Value} {below : List Frame} {meth : Method} {c : Code} {A : Nat → Prop} {D : va_G} {tys : List (ClassId × FieldType)} {cI cJ : ClassId} {mi e0 : Nat} {sa : Nat → Nat} {shm : xS} {adm : Nat → Nat} {LI : Nat → xS → (Nat → Nat) → xV → xV → Prop} {b L : Nat} {xs : Nat → Int32} {Q : State → Prop} (E : xE mi e0 A s s.heap) (F : xF sa A s s.heap) (hN : xN s) (hX : va_X b L xs s s.heap) (hbl : b < s.heap.size) (hbA : ¬ A b) (hL : L ≤ 3072) (Mm : xMm shm adm cI tys) (hAm : ∀ (i : Nat) (mk : (Nat → Int32) → va_E), shm i = some mk → A (adm i)) (hT3 : tys[3]? = some (cJ, .long)) (hDo9 : ∀ t sh ad V Vm, LI t sh ad V Vm → xDo sh ad cI ∧ sh 16 = some (oMk cJ))
    (hP : LawP l D tys mi e0 sa shm adm LI yL_endOf wsL_endOf yX3_endOf wsX3_endOf 2 1) {t i cells slots : Nat} (ht : t < 512) (hi : i + 6 ≤ L) (hcs : cells + 8 ≤ room_1.cells ∧ slots + 180 ≤ room_1.slots) {sh : xS} {ad : Nat → Nat} {V Vm : xV} {H : Heap} {locs : List Loc} {ls : Array Slot} (hS : LSt D tys cI cJ shm adm LI b p s m args meth c A t i sh ad V Vm H locs ls)
    (cont : ∀ (sh : xS) (ad : Nat → Nat) (V Vm : xV) (H : Heap) (locs : List Loc) (ls : Array Slot), LSt D tys cI cJ shm adm LI b p s m args meth c A (t + 1) i sh ad V Vm H locs ls → W p l e room_1 s m args below meth c H locs (cells + 8) (slots + 180) Q (F0 m 1417 ls [])) :
    W p l e room_1 s m args below meth c H locs cells slots Q (F0 m 566 ls []) := by
  obtain ⟨B, G, Gm, hap, hLI, hDo, hl⟩ := hS
  have hx := B.1.1
  have hb := B.1.2.1
  have hIm := Mm.2.2
  have hcc : room_1.cells = 601024 := rfl
  have hcd : room_1.slots = 7293034 := rfl
  obtain ⟨r, o, Vm', hW, hM, hthr⟩ := hP t sh ad V Vm [xs (i + 1)] rfl ht hLI
  refine lv_aload_n hx hb dL_law_566 rfl (lv_at hl 1 rfl) ?_
  refine lv_aload_n hx hb dL_law_567 rfl (lv_at hl 0 rfl) ?_
  refine lv_iload hx hb dL_law_568 (lv_at hl 4 rfl) ?_
  refine lv_iconst (v := 1) hx hb dL_law_570 (by decide) ?_
  refine lv_iadd hx hb dL_law_571 ?_
  refine x_top (show (nI i) + 1 = nI (i + 1) from nI_add i 1) ?_
  refine va_sld hx hb hX hbl hbA G.2 (vp_in_nI (show i + 1 < L by omega) (by omega)) dL_law_572 ?_
  rw [nI_clamp (show i + 1 < 2 ^ 31 by omega)]
  refine lv_aload_n hx hb dL_law_573 rfl (lv_at hl 3 rfl) ?_
  refine x_callSw (rest := []) (fun H1 => xW D shm adm Vm H1) B E F hN G (fun H1 hz hk => Gm.keepK hap hk) hW (vx_cwSW 3 B.1.2.2.2.2 gL_law_L_endOf rfl rfl rfl (by decide +kernel) ⟨Nat.le_of_ble_eq_true rfl, Nat.le_of_ble_eq_true rfl⟩) rfl hl.1 rfl (Nat.le_of_ble_eq_true rfl) hcs dL_law_574 (fun v sh1 ad1 V1 H1 locs hR Gm1 hA1 B G => ?_)
  obtain ⟨rfl, hLI1, e_0, e_16, hans⟩ := hR
  have hap1 := hap.after Gm hA1
  have hDo1 := hDo9 _ _ _ _ _ hLI1
  have hl : lv_has ls 7 [(0, .ref b), (1, .ref (ad1 0)), (2, .ref (adm 17)), (3, .ref (ad1 16)), (4, .int (nI i))] := lv_cast hl (by rw [e_0, e_16])
  refine W.eq (g2 := F0 m 577 ls [.int r]) rfl ?_
  refine lv_istore (lv' := [(5, .int r), (0, .ref b), (1, .ref (ad1 0)), (2, .ref (adm 17)), (3, .ref (ad1 16)), (4, .int (nI i))]) hx hb dL_law_577 hl (by decide) rfl (fun ls hl => ?_)
  refine lv_aload_n hx hb dL_law_579 rfl (lv_at hl 3 rfl) ?_
  refine lv_aload_n hx hb dL_law_580 rfl (lv_at hl 1 rfl) ?_
  refine lv_iload hx hb dL_law_581 (lv_at hl 5 rfl) ?_
  refine lv_iconst (v := 1) hx hb dL_law_583 (by decide) ?_
  refine lv_iadd hx hb dL_law_584 ?_
  refine x_top (show (nI i) + 1 = nI (i + 1) from nI_add i 1) ?_
  refine va_sld hx hb hX hbl hbA G.2 (vp_in_nI (show i + 1 < L by omega) (by omega)) dL_law_585 ?_
  rw [nI_clamp (show i + 1 < 2 ^ 31 by omega)]
  refine x_callViK (rest := []) (fun H1 => xW D sh1 ad1 V1 H1) (xB.of B hIm hAm) ⟨Gm1, G.2⟩ (fun H1 hz hk => (show xW D sh1 ad1 V1 _ from G.1).keepK hap1.symm hk) hM (cwV 1 B.1.2.2.2.2 gL_law_X3_endOf rfl rfl rfl (by decide +kernel) ⟨Nat.le_of_ble_eq_true rfl, Nat.le_of_ble_eq_true rfl⟩) (x_recv (xB.of B hIm hAm) ⟨Gm1, G.2⟩ 17 (q := (RX3, TX3, 21)) Mm.2.1.1 rfl) rfl hl.1 rfl (Nat.le_of_ble_eq_true rfl) ⟨by omega, by omega⟩ dL_law_586 (fun H2 locs Gc G2 => ?_)
  have Gm2 := G2.1
  have G : xG D sh1 ad1 A s.heap V1 H2 locs := ⟨Gc, G2.2⟩
  refine lv_istore (lv' := [(6, .int o), (5, .int r), (0, .ref b), (1, .ref (ad1 0)), (2, .ref (adm 17)), (3, .ref (ad1 16)), (4, .int (nI i))]) hx hb dL_law_589 hl (by decide) rfl (fun ls hl => ?_)
  refine lv_aload_n hx hb dL_law_591 rfl (lv_at hl 4 rfl) ?_
  refine x_callViK (rest := []) (fun H1 => xW D sh1 ad1 V1 H1) (xB.of B hIm hAm) ⟨Gm2, G.2⟩ (fun H1 hz hk => (show xW D sh1 ad1 V1 _ from G.1).keepK hap1.symm hk) (c_X3_thrown l Mm Vm') (cwV 0 B.1.2.2.2.2 gL_law_X3_thrown rfl rfl rfl (by decide +kernel) ⟨Nat.le_of_ble_eq_true rfl, Nat.le_of_ble_eq_true rfl⟩) (x_recv (xB.of B hIm hAm) ⟨Gm2, G.2⟩ 17 (q := (RX3, TX3, 21)) Mm.2.1.1 rfl) rfl hl.1 rfl (Nat.le_of_ble_eq_true rfl) ⟨by omega, by omega⟩ dL_law_592 (fun H3 locs Gc G3 => ?_)
  have Gm3 := G3.1
  have G : xG D sh1 ad1 A s.heap V1 H3 locs := ⟨Gc, G3.2⟩
  refine lv_iload hx hb dL_law_595 (lv_at hl 1 rfl) ?_
  refine lv_icmp_eq (tgt := 602) hx hb dL_law_597 (by decide) (fun c_597 => ?_) (fun c_597 => ?_)
  · skip
    refine lv_iload hx hb dL_law_602 (lv_at hl 1 rfl) ?_
    refine lv_if_ne (tgt := 619) hx hb dL_law_604 (by decide) (fun c_604 => ?_) (fun c_604 => ?_)
    · skip
      refine lv_goto (tgt := 1417) hx hb dL_law_619 (by decide) ?_
      have hl := lv_sub (l' := [(0, .ref b), (1, .ref (ad1 0)), (2, .ref (adm 17)), (3, .ref (ad1 16)), (4, .int (nI i))]) hl [2, 3, 4, 5, 6] rfl
      exact cont sh1 ad1 V1 Vm' H3 locs ls ⟨B, G, Gm3, hap1, hLI1, hDo1, hl⟩
    · skip
      refine lv_aload_n hx hb dL_law_607 rfl (lv_at hl 5 rfl) ?_
      refine lv_iconst (v := 0) hx hb dL_law_608 (by decide) ?_
      refine x_lld B G hDo1.2 hT3 dL_law_609 ?_
      refine lv_iload hx hb dL_law_610 (lv_at hl 0 rfl) ?_
      refine lv_i2l hx hb dL_law_612 rfl ?_
      refine W.lcmp hx hb dL_law_613 ?_
      refine x_top (show _ = 0 from l_cmp0 (by rw [hans c_604])) ?_
      refine lv_if_eq (tgt := 619) hx hb dL_law_614 (by decide) (fun c_614 => ?_) (fun c_614 => ?_)
      · skip
        refine lv_goto (tgt := 1417) hx hb dL_law_619 (by decide) ?_
        have hl := lv_sub (l' := [(0, .ref b), (1, .ref (ad1 0)), (2, .ref (adm 17)), (3, .ref (ad1 16)), (4, .int (nI i))]) hl [2, 3, 4, 5, 6] rfl
        exact cont sh1 ad1 V1 Vm' H3 locs ls ⟨B, G, Gm3, hap1, hLI1, hDo1, hl⟩
      · exact False.elim (c_614 (by decide))
  · exact False.elim (c_597 hthr)
set_option maxHeartbeats 1000000 in
set_option maxRecDepth 100000 in
theorem law_deliveredAt {p : Program} (l : Launch) {e : Env} {s : State} {m : MethodId} {args : Array Value} {below : List Frame} {meth : Method} {c : Code} {A : Nat → Prop} {D : va_G} {tys : List (ClassId × FieldType)} {cI cJ : ClassId} {mi e0 : Nat} {sa : Nat → Nat} {shm : xS} {adm : Nat → Nat} {LI : Nat → xS → (Nat → Nat) → xV → xV → Prop} {b L : Nat} {xs : Nat → Int32} {Q : State → Prop} (E : xE mi e0 A s s.heap) (F : xF sa A s s.heap) (hN : xN s) (hX : va_X b L xs s s.heap) (hbl : b < s.heap.size) (hbA : ¬ A b) (hL : L ≤ 3072) (Mm : xMm shm adm cI tys) (hAm : ∀ (i : Nat) (mk : (Nat → Int32) → va_E), shm i = some mk → A (adm i)) (hT3 : tys[3]? = some (cJ, .long)) (hDo9 : ∀ t sh ad V Vm, LI t sh ad V Vm → xDo sh ad cI ∧ sh 16 = some (oMk cJ))
    (hP : LawP l D tys mi e0 sa shm adm LI yL_deliveredAt wsL_deliveredAt yX3_deliveredAt wsX3_deliveredAt 2 1) {t i cells slots : Nat} (ht : t < 512) (hi : i + 6 ≤ L) (hcs : cells + 8 ≤ room_1.cells ∧ slots + 180 ≤ room_1.slots) {sh : xS} {ad : Nat → Nat} {V Vm : xV} {H : Heap} {locs : List Loc} {ls : Array Slot} (hS : LSt D tys cI cJ shm adm LI b p s m args meth c A t i sh ad V Vm H locs ls)
    (cont : ∀ (sh : xS) (ad : Nat → Nat) (V Vm : xV) (H : Heap) (locs : List Loc) (ls : Array Slot), LSt D tys cI cJ shm adm LI b p s m args meth c A (t + 1) i sh ad V Vm H locs ls → W p l e room_1 s m args below meth c H locs (cells + 8) (slots + 180) Q (F0 m 1417 ls [])) :
    W p l e room_1 s m args below meth c H locs cells slots Q (F0 m 622 ls []) := by
  obtain ⟨B, G, Gm, hap, hLI, hDo, hl⟩ := hS
  have hx := B.1.1
  have hb := B.1.2.1
  have hIm := Mm.2.2
  have hcc : room_1.cells = 601024 := rfl
  have hcd : room_1.slots = 7293034 := rfl
  obtain ⟨r, o, Vm', hW, hM, hthr⟩ := hP t sh ad V Vm [xs (i + 1)] rfl ht hLI
  refine lv_aload_n hx hb dL_law_622 rfl (lv_at hl 1 rfl) ?_
  refine lv_aload_n hx hb dL_law_623 rfl (lv_at hl 0 rfl) ?_
  refine lv_iload hx hb dL_law_624 (lv_at hl 4 rfl) ?_
  refine lv_iconst (v := 1) hx hb dL_law_626 (by decide) ?_
  refine lv_iadd hx hb dL_law_627 ?_
  refine x_top (show (nI i) + 1 = nI (i + 1) from nI_add i 1) ?_
  refine va_sld hx hb hX hbl hbA G.2 (vp_in_nI (show i + 1 < L by omega) (by omega)) dL_law_628 ?_
  rw [nI_clamp (show i + 1 < 2 ^ 31 by omega)]
  refine lv_aload_n hx hb dL_law_629 rfl (lv_at hl 3 rfl) ?_
  refine x_callSw (rest := []) (fun H1 => xW D shm adm Vm H1) B E F hN G (fun H1 hz hk => Gm.keepK hap hk) hW (vx_cwSW 3 B.1.2.2.2.2 gL_law_L_deliveredAt rfl rfl rfl (by decide +kernel) ⟨Nat.le_of_ble_eq_true rfl, Nat.le_of_ble_eq_true rfl⟩) rfl hl.1 rfl (Nat.le_of_ble_eq_true rfl) hcs dL_law_630 (fun v sh1 ad1 V1 H1 locs hR Gm1 hA1 B G => ?_)
  obtain ⟨rfl, hLI1, e_0, e_16, hans⟩ := hR
  have hap1 := hap.after Gm hA1
  have hDo1 := hDo9 _ _ _ _ _ hLI1
  have hl : lv_has ls 7 [(0, .ref b), (1, .ref (ad1 0)), (2, .ref (adm 17)), (3, .ref (ad1 16)), (4, .int (nI i))] := lv_cast hl (by rw [e_0, e_16])
  refine W.eq (g2 := F0 m 633 ls [.int r]) rfl ?_
  refine lv_istore (lv' := [(5, .int r), (0, .ref b), (1, .ref (ad1 0)), (2, .ref (adm 17)), (3, .ref (ad1 16)), (4, .int (nI i))]) hx hb dL_law_633 hl (by decide) rfl (fun ls hl => ?_)
  refine lv_aload_n hx hb dL_law_635 rfl (lv_at hl 3 rfl) ?_
  refine lv_aload_n hx hb dL_law_636 rfl (lv_at hl 1 rfl) ?_
  refine lv_iload hx hb dL_law_637 (lv_at hl 5 rfl) ?_
  refine lv_iconst (v := 1) hx hb dL_law_639 (by decide) ?_
  refine lv_iadd hx hb dL_law_640 ?_
  refine x_top (show (nI i) + 1 = nI (i + 1) from nI_add i 1) ?_
  refine va_sld hx hb hX hbl hbA G.2 (vp_in_nI (show i + 1 < L by omega) (by omega)) dL_law_641 ?_
  rw [nI_clamp (show i + 1 < 2 ^ 31 by omega)]
  refine x_callViK (rest := []) (fun H1 => xW D sh1 ad1 V1 H1) (xB.of B hIm hAm) ⟨Gm1, G.2⟩ (fun H1 hz hk => (show xW D sh1 ad1 V1 _ from G.1).keepK hap1.symm hk) hM (cwV 1 B.1.2.2.2.2 gL_law_X3_deliveredAt rfl rfl rfl (by decide +kernel) ⟨Nat.le_of_ble_eq_true rfl, Nat.le_of_ble_eq_true rfl⟩) (x_recv (xB.of B hIm hAm) ⟨Gm1, G.2⟩ 17 (q := (RX3, TX3, 21)) Mm.2.1.1 rfl) rfl hl.1 rfl (Nat.le_of_ble_eq_true rfl) ⟨by omega, by omega⟩ dL_law_642 (fun H2 locs Gc G2 => ?_)
  have Gm2 := G2.1
  have G : xG D sh1 ad1 A s.heap V1 H2 locs := ⟨Gc, G2.2⟩
  refine lv_istore (lv' := [(6, .int o), (5, .int r), (0, .ref b), (1, .ref (ad1 0)), (2, .ref (adm 17)), (3, .ref (ad1 16)), (4, .int (nI i))]) hx hb dL_law_645 hl (by decide) rfl (fun ls hl => ?_)
  refine lv_aload_n hx hb dL_law_647 rfl (lv_at hl 4 rfl) ?_
  refine x_callViK (rest := []) (fun H1 => xW D sh1 ad1 V1 H1) (xB.of B hIm hAm) ⟨Gm2, G.2⟩ (fun H1 hz hk => (show xW D sh1 ad1 V1 _ from G.1).keepK hap1.symm hk) (c_X3_thrown l Mm Vm') (cwV 0 B.1.2.2.2.2 gL_law_X3_thrown rfl rfl rfl (by decide +kernel) ⟨Nat.le_of_ble_eq_true rfl, Nat.le_of_ble_eq_true rfl⟩) (x_recv (xB.of B hIm hAm) ⟨Gm2, G.2⟩ 17 (q := (RX3, TX3, 21)) Mm.2.1.1 rfl) rfl hl.1 rfl (Nat.le_of_ble_eq_true rfl) ⟨by omega, by omega⟩ dL_law_648 (fun H3 locs Gc G3 => ?_)
  have Gm3 := G3.1
  have G : xG D sh1 ad1 A s.heap V1 H3 locs := ⟨Gc, G3.2⟩
  refine lv_iload hx hb dL_law_651 (lv_at hl 1 rfl) ?_
  refine lv_icmp_eq (tgt := 658) hx hb dL_law_653 (by decide) (fun c_653 => ?_) (fun c_653 => ?_)
  · skip
    refine lv_iload hx hb dL_law_658 (lv_at hl 1 rfl) ?_
    refine lv_if_ne (tgt := 675) hx hb dL_law_660 (by decide) (fun c_660 => ?_) (fun c_660 => ?_)
    · skip
      refine lv_goto (tgt := 1417) hx hb dL_law_675 (by decide) ?_
      have hl := lv_sub (l' := [(0, .ref b), (1, .ref (ad1 0)), (2, .ref (adm 17)), (3, .ref (ad1 16)), (4, .int (nI i))]) hl [2, 3, 4, 5, 6] rfl
      exact cont sh1 ad1 V1 Vm' H3 locs ls ⟨B, G, Gm3, hap1, hLI1, hDo1, hl⟩
    · skip
      refine lv_aload_n hx hb dL_law_663 rfl (lv_at hl 5 rfl) ?_
      refine lv_iconst (v := 0) hx hb dL_law_664 (by decide) ?_
      refine x_lld B G hDo1.2 hT3 dL_law_665 ?_
      refine lv_iload hx hb dL_law_666 (lv_at hl 0 rfl) ?_
      refine lv_i2l hx hb dL_law_668 rfl ?_
      refine W.lcmp hx hb dL_law_669 ?_
      refine x_top (show _ = 0 from l_cmp0 (by rw [hans c_660])) ?_
      refine lv_if_eq (tgt := 675) hx hb dL_law_670 (by decide) (fun c_670 => ?_) (fun c_670 => ?_)
      · skip
        refine lv_goto (tgt := 1417) hx hb dL_law_675 (by decide) ?_
        have hl := lv_sub (l' := [(0, .ref b), (1, .ref (ad1 0)), (2, .ref (adm 17)), (3, .ref (ad1 16)), (4, .int (nI i))]) hl [2, 3, 4, 5, 6] rfl
        exact cont sh1 ad1 V1 Vm' H3 locs ls ⟨B, G, Gm3, hap1, hLI1, hDo1, hl⟩
      · exact False.elim (c_670 (by decide))
  · exact False.elim (c_653 hthr)
set_option maxHeartbeats 1000000 in
set_option maxRecDepth 100000 in
theorem law_hops {p : Program} (l : Launch) {e : Env} {s : State} {m : MethodId} {args : Array Value} {below : List Frame} {meth : Method} {c : Code} {A : Nat → Prop} {D : va_G} {tys : List (ClassId × FieldType)} {cI cJ : ClassId} {mi e0 : Nat} {sa : Nat → Nat} {shm : xS} {adm : Nat → Nat} {LI : Nat → xS → (Nat → Nat) → xV → xV → Prop} {b L : Nat} {xs : Nat → Int32} {Q : State → Prop} (E : xE mi e0 A s s.heap) (F : xF sa A s s.heap) (hN : xN s) (hX : va_X b L xs s s.heap) (hbl : b < s.heap.size) (hbA : ¬ A b) (hL : L ≤ 3072) (Mm : xMm shm adm cI tys) (hAm : ∀ (i : Nat) (mk : (Nat → Int32) → va_E), shm i = some mk → A (adm i)) (hT3 : tys[3]? = some (cJ, .long)) (hDo9 : ∀ t sh ad V Vm, LI t sh ad V Vm → xDo sh ad cI ∧ sh 16 = some (oMk cJ))
    (hP : LawP l D tys mi e0 sa shm adm LI yL_hops wsL_hops yX3_hops wsX3_hops 2 1) {t i cells slots : Nat} (ht : t < 512) (hi : i + 6 ≤ L) (hcs : cells + 8 ≤ room_1.cells ∧ slots + 180 ≤ room_1.slots) {sh : xS} {ad : Nat → Nat} {V Vm : xV} {H : Heap} {locs : List Loc} {ls : Array Slot} (hS : LSt D tys cI cJ shm adm LI b p s m args meth c A t i sh ad V Vm H locs ls)
    (cont : ∀ (sh : xS) (ad : Nat → Nat) (V Vm : xV) (H : Heap) (locs : List Loc) (ls : Array Slot), LSt D tys cI cJ shm adm LI b p s m args meth c A (t + 1) i sh ad V Vm H locs ls → W p l e room_1 s m args below meth c H locs (cells + 8) (slots + 180) Q (F0 m 1417 ls [])) :
    W p l e room_1 s m args below meth c H locs cells slots Q (F0 m 678 ls []) := by
  obtain ⟨B, G, Gm, hap, hLI, hDo, hl⟩ := hS
  have hx := B.1.1
  have hb := B.1.2.1
  have hIm := Mm.2.2
  have hcc : room_1.cells = 601024 := rfl
  have hcd : room_1.slots = 7293034 := rfl
  obtain ⟨r, o, Vm', hW, hM, hthr⟩ := hP t sh ad V Vm [xs (i + 1)] rfl ht hLI
  refine lv_aload_n hx hb dL_law_678 rfl (lv_at hl 1 rfl) ?_
  refine lv_aload_n hx hb dL_law_679 rfl (lv_at hl 0 rfl) ?_
  refine lv_iload hx hb dL_law_680 (lv_at hl 4 rfl) ?_
  refine lv_iconst (v := 1) hx hb dL_law_682 (by decide) ?_
  refine lv_iadd hx hb dL_law_683 ?_
  refine x_top (show (nI i) + 1 = nI (i + 1) from nI_add i 1) ?_
  refine va_sld hx hb hX hbl hbA G.2 (vp_in_nI (show i + 1 < L by omega) (by omega)) dL_law_684 ?_
  rw [nI_clamp (show i + 1 < 2 ^ 31 by omega)]
  refine lv_aload_n hx hb dL_law_685 rfl (lv_at hl 3 rfl) ?_
  refine x_callSw (rest := []) (fun H1 => xW D shm adm Vm H1) B E F hN G (fun H1 hz hk => Gm.keepK hap hk) hW (vx_cwSW 3 B.1.2.2.2.2 gL_law_L_hops rfl rfl rfl (by decide +kernel) ⟨Nat.le_of_ble_eq_true rfl, Nat.le_of_ble_eq_true rfl⟩) rfl hl.1 rfl (Nat.le_of_ble_eq_true rfl) hcs dL_law_686 (fun v sh1 ad1 V1 H1 locs hR Gm1 hA1 B G => ?_)
  obtain ⟨rfl, hLI1, e_0, e_16, hans⟩ := hR
  have hap1 := hap.after Gm hA1
  have hDo1 := hDo9 _ _ _ _ _ hLI1
  have hl : lv_has ls 7 [(0, .ref b), (1, .ref (ad1 0)), (2, .ref (adm 17)), (3, .ref (ad1 16)), (4, .int (nI i))] := lv_cast hl (by rw [e_0, e_16])
  refine W.eq (g2 := F0 m 689 ls [.int r]) rfl ?_
  refine lv_istore (lv' := [(5, .int r), (0, .ref b), (1, .ref (ad1 0)), (2, .ref (adm 17)), (3, .ref (ad1 16)), (4, .int (nI i))]) hx hb dL_law_689 hl (by decide) rfl (fun ls hl => ?_)
  refine lv_aload_n hx hb dL_law_691 rfl (lv_at hl 3 rfl) ?_
  refine lv_aload_n hx hb dL_law_692 rfl (lv_at hl 1 rfl) ?_
  refine lv_iload hx hb dL_law_693 (lv_at hl 5 rfl) ?_
  refine lv_iconst (v := 1) hx hb dL_law_695 (by decide) ?_
  refine lv_iadd hx hb dL_law_696 ?_
  refine x_top (show (nI i) + 1 = nI (i + 1) from nI_add i 1) ?_
  refine va_sld hx hb hX hbl hbA G.2 (vp_in_nI (show i + 1 < L by omega) (by omega)) dL_law_697 ?_
  rw [nI_clamp (show i + 1 < 2 ^ 31 by omega)]
  refine x_callViK (rest := []) (fun H1 => xW D sh1 ad1 V1 H1) (xB.of B hIm hAm) ⟨Gm1, G.2⟩ (fun H1 hz hk => (show xW D sh1 ad1 V1 _ from G.1).keepK hap1.symm hk) hM (cwV 1 B.1.2.2.2.2 gL_law_X3_hops rfl rfl rfl (by decide +kernel) ⟨Nat.le_of_ble_eq_true rfl, Nat.le_of_ble_eq_true rfl⟩) (x_recv (xB.of B hIm hAm) ⟨Gm1, G.2⟩ 17 (q := (RX3, TX3, 21)) Mm.2.1.1 rfl) rfl hl.1 rfl (Nat.le_of_ble_eq_true rfl) ⟨by omega, by omega⟩ dL_law_698 (fun H2 locs Gc G2 => ?_)
  have Gm2 := G2.1
  have G : xG D sh1 ad1 A s.heap V1 H2 locs := ⟨Gc, G2.2⟩
  refine lv_istore (lv' := [(6, .int o), (5, .int r), (0, .ref b), (1, .ref (ad1 0)), (2, .ref (adm 17)), (3, .ref (ad1 16)), (4, .int (nI i))]) hx hb dL_law_701 hl (by decide) rfl (fun ls hl => ?_)
  refine lv_aload_n hx hb dL_law_703 rfl (lv_at hl 4 rfl) ?_
  refine x_callViK (rest := []) (fun H1 => xW D sh1 ad1 V1 H1) (xB.of B hIm hAm) ⟨Gm2, G.2⟩ (fun H1 hz hk => (show xW D sh1 ad1 V1 _ from G.1).keepK hap1.symm hk) (c_X3_thrown l Mm Vm') (cwV 0 B.1.2.2.2.2 gL_law_X3_thrown rfl rfl rfl (by decide +kernel) ⟨Nat.le_of_ble_eq_true rfl, Nat.le_of_ble_eq_true rfl⟩) (x_recv (xB.of B hIm hAm) ⟨Gm2, G.2⟩ 17 (q := (RX3, TX3, 21)) Mm.2.1.1 rfl) rfl hl.1 rfl (Nat.le_of_ble_eq_true rfl) ⟨by omega, by omega⟩ dL_law_704 (fun H3 locs Gc G3 => ?_)
  have Gm3 := G3.1
  have G : xG D sh1 ad1 A s.heap V1 H3 locs := ⟨Gc, G3.2⟩
  refine lv_iload hx hb dL_law_707 (lv_at hl 1 rfl) ?_
  refine lv_icmp_eq (tgt := 714) hx hb dL_law_709 (by decide) (fun c_709 => ?_) (fun c_709 => ?_)
  · skip
    refine lv_iload hx hb dL_law_714 (lv_at hl 1 rfl) ?_
    refine lv_if_ne (tgt := 731) hx hb dL_law_716 (by decide) (fun c_716 => ?_) (fun c_716 => ?_)
    · skip
      refine lv_goto (tgt := 1417) hx hb dL_law_731 (by decide) ?_
      have hl := lv_sub (l' := [(0, .ref b), (1, .ref (ad1 0)), (2, .ref (adm 17)), (3, .ref (ad1 16)), (4, .int (nI i))]) hl [2, 3, 4, 5, 6] rfl
      exact cont sh1 ad1 V1 Vm' H3 locs ls ⟨B, G, Gm3, hap1, hLI1, hDo1, hl⟩
    · skip
      refine lv_aload_n hx hb dL_law_719 rfl (lv_at hl 5 rfl) ?_
      refine lv_iconst (v := 0) hx hb dL_law_720 (by decide) ?_
      refine x_lld B G hDo1.2 hT3 dL_law_721 ?_
      refine lv_iload hx hb dL_law_722 (lv_at hl 0 rfl) ?_
      refine lv_i2l hx hb dL_law_724 rfl ?_
      refine W.lcmp hx hb dL_law_725 ?_
      refine x_top (show _ = 0 from l_cmp0 (by rw [hans c_716])) ?_
      refine lv_if_eq (tgt := 731) hx hb dL_law_726 (by decide) (fun c_726 => ?_) (fun c_726 => ?_)
      · skip
        refine lv_goto (tgt := 1417) hx hb dL_law_731 (by decide) ?_
        have hl := lv_sub (l' := [(0, .ref b), (1, .ref (ad1 0)), (2, .ref (adm 17)), (3, .ref (ad1 16)), (4, .int (nI i))]) hl [2, 3, 4, 5, 6] rfl
        exact cont sh1 ad1 V1 Vm' H3 locs ls ⟨B, G, Gm3, hap1, hLI1, hDo1, hl⟩
      · exact False.elim (c_726 (by decide))
  · exact False.elim (c_709 hthr)
set_option maxHeartbeats 1000000 in
set_option maxRecDepth 100000 in
theorem law_custodian {p : Program} (l : Launch) {e : Env} {s : State} {m : MethodId} {args : Array Value} {below : List Frame} {meth : Method} {c : Code} {A : Nat → Prop} {D : va_G} {tys : List (ClassId × FieldType)} {cI cJ : ClassId} {mi e0 : Nat} {sa : Nat → Nat} {shm : xS} {adm : Nat → Nat} {LI : Nat → xS → (Nat → Nat) → xV → xV → Prop} {b L : Nat} {xs : Nat → Int32} {Q : State → Prop} (E : xE mi e0 A s s.heap) (F : xF sa A s s.heap) (hN : xN s) (hX : va_X b L xs s s.heap) (hbl : b < s.heap.size) (hbA : ¬ A b) (hL : L ≤ 3072) (Mm : xMm shm adm cI tys) (hAm : ∀ (i : Nat) (mk : (Nat → Int32) → va_E), shm i = some mk → A (adm i)) (hT3 : tys[3]? = some (cJ, .long)) (hDo9 : ∀ t sh ad V Vm, LI t sh ad V Vm → xDo sh ad cI ∧ sh 16 = some (oMk cJ))
    (hP : LawP l D tys mi e0 sa shm adm LI yL_custodian wsL_custodian yX3_custodian wsX3_custodian 2 1) {t i cells slots : Nat} (ht : t < 512) (hi : i + 6 ≤ L) (hcs : cells + 8 ≤ room_1.cells ∧ slots + 180 ≤ room_1.slots) {sh : xS} {ad : Nat → Nat} {V Vm : xV} {H : Heap} {locs : List Loc} {ls : Array Slot} (hS : LSt D tys cI cJ shm adm LI b p s m args meth c A t i sh ad V Vm H locs ls)
    (cont : ∀ (sh : xS) (ad : Nat → Nat) (V Vm : xV) (H : Heap) (locs : List Loc) (ls : Array Slot), LSt D tys cI cJ shm adm LI b p s m args meth c A (t + 1) i sh ad V Vm H locs ls → W p l e room_1 s m args below meth c H locs (cells + 8) (slots + 180) Q (F0 m 1417 ls [])) :
    W p l e room_1 s m args below meth c H locs cells slots Q (F0 m 734 ls []) := by
  obtain ⟨B, G, Gm, hap, hLI, hDo, hl⟩ := hS
  have hx := B.1.1
  have hb := B.1.2.1
  have hIm := Mm.2.2
  have hcc : room_1.cells = 601024 := rfl
  have hcd : room_1.slots = 7293034 := rfl
  obtain ⟨r, o, Vm', hW, hM, hthr⟩ := hP t sh ad V Vm [xs (i + 1)] rfl ht hLI
  refine lv_aload_n hx hb dL_law_734 rfl (lv_at hl 1 rfl) ?_
  refine lv_aload_n hx hb dL_law_735 rfl (lv_at hl 0 rfl) ?_
  refine lv_iload hx hb dL_law_736 (lv_at hl 4 rfl) ?_
  refine lv_iconst (v := 1) hx hb dL_law_738 (by decide) ?_
  refine lv_iadd hx hb dL_law_739 ?_
  refine x_top (show (nI i) + 1 = nI (i + 1) from nI_add i 1) ?_
  refine va_sld hx hb hX hbl hbA G.2 (vp_in_nI (show i + 1 < L by omega) (by omega)) dL_law_740 ?_
  rw [nI_clamp (show i + 1 < 2 ^ 31 by omega)]
  refine lv_aload_n hx hb dL_law_741 rfl (lv_at hl 3 rfl) ?_
  refine x_callSw (rest := []) (fun H1 => xW D shm adm Vm H1) B E F hN G (fun H1 hz hk => Gm.keepK hap hk) hW (vx_cwSW 3 B.1.2.2.2.2 gL_law_L_custodian rfl rfl rfl (by decide +kernel) ⟨Nat.le_of_ble_eq_true rfl, Nat.le_of_ble_eq_true rfl⟩) rfl hl.1 rfl (Nat.le_of_ble_eq_true rfl) hcs dL_law_742 (fun v sh1 ad1 V1 H1 locs hR Gm1 hA1 B G => ?_)
  obtain ⟨rfl, hLI1, e_0, e_16, hans⟩ := hR
  have hap1 := hap.after Gm hA1
  have hDo1 := hDo9 _ _ _ _ _ hLI1
  have hl : lv_has ls 7 [(0, .ref b), (1, .ref (ad1 0)), (2, .ref (adm 17)), (3, .ref (ad1 16)), (4, .int (nI i))] := lv_cast hl (by rw [e_0, e_16])
  refine W.eq (g2 := F0 m 745 ls [.int r]) rfl ?_
  refine lv_istore (lv' := [(5, .int r), (0, .ref b), (1, .ref (ad1 0)), (2, .ref (adm 17)), (3, .ref (ad1 16)), (4, .int (nI i))]) hx hb dL_law_745 hl (by decide) rfl (fun ls hl => ?_)
  refine lv_aload_n hx hb dL_law_747 rfl (lv_at hl 3 rfl) ?_
  refine lv_aload_n hx hb dL_law_748 rfl (lv_at hl 1 rfl) ?_
  refine lv_iload hx hb dL_law_749 (lv_at hl 5 rfl) ?_
  refine lv_iconst (v := 1) hx hb dL_law_751 (by decide) ?_
  refine lv_iadd hx hb dL_law_752 ?_
  refine x_top (show (nI i) + 1 = nI (i + 1) from nI_add i 1) ?_
  refine va_sld hx hb hX hbl hbA G.2 (vp_in_nI (show i + 1 < L by omega) (by omega)) dL_law_753 ?_
  rw [nI_clamp (show i + 1 < 2 ^ 31 by omega)]
  refine x_callViK (rest := []) (fun H1 => xW D sh1 ad1 V1 H1) (xB.of B hIm hAm) ⟨Gm1, G.2⟩ (fun H1 hz hk => (show xW D sh1 ad1 V1 _ from G.1).keepK hap1.symm hk) hM (cwV 1 B.1.2.2.2.2 gL_law_X3_custodian rfl rfl rfl (by decide +kernel) ⟨Nat.le_of_ble_eq_true rfl, Nat.le_of_ble_eq_true rfl⟩) (x_recv (xB.of B hIm hAm) ⟨Gm1, G.2⟩ 17 (q := (RX3, TX3, 21)) Mm.2.1.1 rfl) rfl hl.1 rfl (Nat.le_of_ble_eq_true rfl) ⟨by omega, by omega⟩ dL_law_754 (fun H2 locs Gc G2 => ?_)
  have Gm2 := G2.1
  have G : xG D sh1 ad1 A s.heap V1 H2 locs := ⟨Gc, G2.2⟩
  refine lv_istore (lv' := [(6, .int o), (5, .int r), (0, .ref b), (1, .ref (ad1 0)), (2, .ref (adm 17)), (3, .ref (ad1 16)), (4, .int (nI i))]) hx hb dL_law_757 hl (by decide) rfl (fun ls hl => ?_)
  refine lv_aload_n hx hb dL_law_759 rfl (lv_at hl 4 rfl) ?_
  refine x_callViK (rest := []) (fun H1 => xW D sh1 ad1 V1 H1) (xB.of B hIm hAm) ⟨Gm2, G.2⟩ (fun H1 hz hk => (show xW D sh1 ad1 V1 _ from G.1).keepK hap1.symm hk) (c_X3_thrown l Mm Vm') (cwV 0 B.1.2.2.2.2 gL_law_X3_thrown rfl rfl rfl (by decide +kernel) ⟨Nat.le_of_ble_eq_true rfl, Nat.le_of_ble_eq_true rfl⟩) (x_recv (xB.of B hIm hAm) ⟨Gm2, G.2⟩ 17 (q := (RX3, TX3, 21)) Mm.2.1.1 rfl) rfl hl.1 rfl (Nat.le_of_ble_eq_true rfl) ⟨by omega, by omega⟩ dL_law_760 (fun H3 locs Gc G3 => ?_)
  have Gm3 := G3.1
  have G : xG D sh1 ad1 A s.heap V1 H3 locs := ⟨Gc, G3.2⟩
  refine lv_iload hx hb dL_law_763 (lv_at hl 1 rfl) ?_
  refine lv_icmp_eq (tgt := 770) hx hb dL_law_765 (by decide) (fun c_765 => ?_) (fun c_765 => ?_)
  · skip
    refine lv_iload hx hb dL_law_770 (lv_at hl 1 rfl) ?_
    refine lv_if_ne (tgt := 787) hx hb dL_law_772 (by decide) (fun c_772 => ?_) (fun c_772 => ?_)
    · skip
      refine lv_goto (tgt := 1417) hx hb dL_law_787 (by decide) ?_
      have hl := lv_sub (l' := [(0, .ref b), (1, .ref (ad1 0)), (2, .ref (adm 17)), (3, .ref (ad1 16)), (4, .int (nI i))]) hl [2, 3, 4, 5, 6] rfl
      exact cont sh1 ad1 V1 Vm' H3 locs ls ⟨B, G, Gm3, hap1, hLI1, hDo1, hl⟩
    · skip
      refine lv_aload_n hx hb dL_law_775 rfl (lv_at hl 5 rfl) ?_
      refine lv_iconst (v := 0) hx hb dL_law_776 (by decide) ?_
      refine x_lld B G hDo1.2 hT3 dL_law_777 ?_
      refine lv_iload hx hb dL_law_778 (lv_at hl 0 rfl) ?_
      refine lv_i2l hx hb dL_law_780 rfl ?_
      refine W.lcmp hx hb dL_law_781 ?_
      refine x_top (show _ = 0 from l_cmp0 (by rw [hans c_772])) ?_
      refine lv_if_eq (tgt := 787) hx hb dL_law_782 (by decide) (fun c_782 => ?_) (fun c_782 => ?_)
      · skip
        refine lv_goto (tgt := 1417) hx hb dL_law_787 (by decide) ?_
        have hl := lv_sub (l' := [(0, .ref b), (1, .ref (ad1 0)), (2, .ref (adm 17)), (3, .ref (ad1 16)), (4, .int (nI i))]) hl [2, 3, 4, 5, 6] rfl
        exact cont sh1 ad1 V1 Vm' H3 locs ls ⟨B, G, Gm3, hap1, hLI1, hDo1, hl⟩
      · exact False.elim (c_782 (by decide))
  · exact False.elim (c_765 hthr)
set_option maxHeartbeats 1000000 in
set_option maxRecDepth 100000 in
theorem law_holders {p : Program} (l : Launch) {e : Env} {s : State} {m : MethodId} {args : Array Value} {below : List Frame} {meth : Method} {c : Code} {A : Nat → Prop} {D : va_G} {tys : List (ClassId × FieldType)} {cI cJ : ClassId} {mi e0 : Nat} {sa : Nat → Nat} {shm : xS} {adm : Nat → Nat} {LI : Nat → xS → (Nat → Nat) → xV → xV → Prop} {b L : Nat} {xs : Nat → Int32} {Q : State → Prop} (E : xE mi e0 A s s.heap) (F : xF sa A s s.heap) (hN : xN s) (hX : va_X b L xs s s.heap) (hbl : b < s.heap.size) (hbA : ¬ A b) (hL : L ≤ 3072) (Mm : xMm shm adm cI tys) (hAm : ∀ (i : Nat) (mk : (Nat → Int32) → va_E), shm i = some mk → A (adm i)) (hT3 : tys[3]? = some (cJ, .long)) (hDo9 : ∀ t sh ad V Vm, LI t sh ad V Vm → xDo sh ad cI ∧ sh 16 = some (oMk cJ))
    (hP : LawP l D tys mi e0 sa shm adm LI yL_holders wsL_holders yX3_holders wsX3_holders 2 1) {t i cells slots : Nat} (ht : t < 512) (hi : i + 6 ≤ L) (hcs : cells + 8 ≤ room_1.cells ∧ slots + 180 ≤ room_1.slots) {sh : xS} {ad : Nat → Nat} {V Vm : xV} {H : Heap} {locs : List Loc} {ls : Array Slot} (hS : LSt D tys cI cJ shm adm LI b p s m args meth c A t i sh ad V Vm H locs ls)
    (cont : ∀ (sh : xS) (ad : Nat → Nat) (V Vm : xV) (H : Heap) (locs : List Loc) (ls : Array Slot), LSt D tys cI cJ shm adm LI b p s m args meth c A (t + 1) i sh ad V Vm H locs ls → W p l e room_1 s m args below meth c H locs (cells + 8) (slots + 180) Q (F0 m 1417 ls [])) :
    W p l e room_1 s m args below meth c H locs cells slots Q (F0 m 790 ls []) := by
  obtain ⟨B, G, Gm, hap, hLI, hDo, hl⟩ := hS
  have hx := B.1.1
  have hb := B.1.2.1
  have hIm := Mm.2.2
  have hcc : room_1.cells = 601024 := rfl
  have hcd : room_1.slots = 7293034 := rfl
  obtain ⟨r, o, Vm', hW, hM, hthr⟩ := hP t sh ad V Vm [xs (i + 1)] rfl ht hLI
  refine lv_aload_n hx hb dL_law_790 rfl (lv_at hl 1 rfl) ?_
  refine lv_aload_n hx hb dL_law_791 rfl (lv_at hl 0 rfl) ?_
  refine lv_iload hx hb dL_law_792 (lv_at hl 4 rfl) ?_
  refine lv_iconst (v := 1) hx hb dL_law_794 (by decide) ?_
  refine lv_iadd hx hb dL_law_795 ?_
  refine x_top (show (nI i) + 1 = nI (i + 1) from nI_add i 1) ?_
  refine va_sld hx hb hX hbl hbA G.2 (vp_in_nI (show i + 1 < L by omega) (by omega)) dL_law_796 ?_
  rw [nI_clamp (show i + 1 < 2 ^ 31 by omega)]
  refine lv_aload_n hx hb dL_law_797 rfl (lv_at hl 3 rfl) ?_
  refine x_callSw (rest := []) (fun H1 => xW D shm adm Vm H1) B E F hN G (fun H1 hz hk => Gm.keepK hap hk) hW (vx_cwSW 3 B.1.2.2.2.2 gL_law_L_holders rfl rfl rfl (by decide +kernel) ⟨Nat.le_of_ble_eq_true rfl, Nat.le_of_ble_eq_true rfl⟩) rfl hl.1 rfl (Nat.le_of_ble_eq_true rfl) hcs dL_law_798 (fun v sh1 ad1 V1 H1 locs hR Gm1 hA1 B G => ?_)
  obtain ⟨rfl, hLI1, e_0, e_16, hans⟩ := hR
  have hap1 := hap.after Gm hA1
  have hDo1 := hDo9 _ _ _ _ _ hLI1
  have hl : lv_has ls 7 [(0, .ref b), (1, .ref (ad1 0)), (2, .ref (adm 17)), (3, .ref (ad1 16)), (4, .int (nI i))] := lv_cast hl (by rw [e_0, e_16])
  refine W.eq (g2 := F0 m 801 ls [.int r]) rfl ?_
  refine lv_istore (lv' := [(5, .int r), (0, .ref b), (1, .ref (ad1 0)), (2, .ref (adm 17)), (3, .ref (ad1 16)), (4, .int (nI i))]) hx hb dL_law_801 hl (by decide) rfl (fun ls hl => ?_)
  refine lv_aload_n hx hb dL_law_803 rfl (lv_at hl 3 rfl) ?_
  refine lv_aload_n hx hb dL_law_804 rfl (lv_at hl 1 rfl) ?_
  refine lv_iload hx hb dL_law_805 (lv_at hl 5 rfl) ?_
  refine lv_iconst (v := 1) hx hb dL_law_807 (by decide) ?_
  refine lv_iadd hx hb dL_law_808 ?_
  refine x_top (show (nI i) + 1 = nI (i + 1) from nI_add i 1) ?_
  refine va_sld hx hb hX hbl hbA G.2 (vp_in_nI (show i + 1 < L by omega) (by omega)) dL_law_809 ?_
  rw [nI_clamp (show i + 1 < 2 ^ 31 by omega)]
  refine x_callViK (rest := []) (fun H1 => xW D sh1 ad1 V1 H1) (xB.of B hIm hAm) ⟨Gm1, G.2⟩ (fun H1 hz hk => (show xW D sh1 ad1 V1 _ from G.1).keepK hap1.symm hk) hM (cwV 1 B.1.2.2.2.2 gL_law_X3_holders rfl rfl rfl (by decide +kernel) ⟨Nat.le_of_ble_eq_true rfl, Nat.le_of_ble_eq_true rfl⟩) (x_recv (xB.of B hIm hAm) ⟨Gm1, G.2⟩ 17 (q := (RX3, TX3, 21)) Mm.2.1.1 rfl) rfl hl.1 rfl (Nat.le_of_ble_eq_true rfl) ⟨by omega, by omega⟩ dL_law_810 (fun H2 locs Gc G2 => ?_)
  have Gm2 := G2.1
  have G : xG D sh1 ad1 A s.heap V1 H2 locs := ⟨Gc, G2.2⟩
  refine lv_istore (lv' := [(6, .int o), (5, .int r), (0, .ref b), (1, .ref (ad1 0)), (2, .ref (adm 17)), (3, .ref (ad1 16)), (4, .int (nI i))]) hx hb dL_law_813 hl (by decide) rfl (fun ls hl => ?_)
  refine lv_aload_n hx hb dL_law_815 rfl (lv_at hl 4 rfl) ?_
  refine x_callViK (rest := []) (fun H1 => xW D sh1 ad1 V1 H1) (xB.of B hIm hAm) ⟨Gm2, G.2⟩ (fun H1 hz hk => (show xW D sh1 ad1 V1 _ from G.1).keepK hap1.symm hk) (c_X3_thrown l Mm Vm') (cwV 0 B.1.2.2.2.2 gL_law_X3_thrown rfl rfl rfl (by decide +kernel) ⟨Nat.le_of_ble_eq_true rfl, Nat.le_of_ble_eq_true rfl⟩) (x_recv (xB.of B hIm hAm) ⟨Gm2, G.2⟩ 17 (q := (RX3, TX3, 21)) Mm.2.1.1 rfl) rfl hl.1 rfl (Nat.le_of_ble_eq_true rfl) ⟨by omega, by omega⟩ dL_law_816 (fun H3 locs Gc G3 => ?_)
  have Gm3 := G3.1
  have G : xG D sh1 ad1 A s.heap V1 H3 locs := ⟨Gc, G3.2⟩
  refine lv_iload hx hb dL_law_819 (lv_at hl 1 rfl) ?_
  refine lv_icmp_eq (tgt := 826) hx hb dL_law_821 (by decide) (fun c_821 => ?_) (fun c_821 => ?_)
  · skip
    refine lv_iload hx hb dL_law_826 (lv_at hl 1 rfl) ?_
    refine lv_if_ne (tgt := 843) hx hb dL_law_828 (by decide) (fun c_828 => ?_) (fun c_828 => ?_)
    · skip
      refine lv_goto (tgt := 1417) hx hb dL_law_843 (by decide) ?_
      have hl := lv_sub (l' := [(0, .ref b), (1, .ref (ad1 0)), (2, .ref (adm 17)), (3, .ref (ad1 16)), (4, .int (nI i))]) hl [2, 3, 4, 5, 6] rfl
      exact cont sh1 ad1 V1 Vm' H3 locs ls ⟨B, G, Gm3, hap1, hLI1, hDo1, hl⟩
    · skip
      refine lv_aload_n hx hb dL_law_831 rfl (lv_at hl 5 rfl) ?_
      refine lv_iconst (v := 0) hx hb dL_law_832 (by decide) ?_
      refine x_lld B G hDo1.2 hT3 dL_law_833 ?_
      refine lv_iload hx hb dL_law_834 (lv_at hl 0 rfl) ?_
      refine lv_i2l hx hb dL_law_836 rfl ?_
      refine W.lcmp hx hb dL_law_837 ?_
      refine x_top (show _ = 0 from l_cmp0 (by rw [hans c_828])) ?_
      refine lv_if_eq (tgt := 843) hx hb dL_law_838 (by decide) (fun c_838 => ?_) (fun c_838 => ?_)
      · skip
        refine lv_goto (tgt := 1417) hx hb dL_law_843 (by decide) ?_
        have hl := lv_sub (l' := [(0, .ref b), (1, .ref (ad1 0)), (2, .ref (adm 17)), (3, .ref (ad1 16)), (4, .int (nI i))]) hl [2, 3, 4, 5, 6] rfl
        exact cont sh1 ad1 V1 Vm' H3 locs ls ⟨B, G, Gm3, hap1, hLI1, hDo1, hl⟩
      · exact False.elim (c_838 (by decide))
  · exact False.elim (c_821 hthr)
set_option maxHeartbeats 1000000 in
set_option maxRecDepth 100000 in
theorem law_copies {p : Program} (l : Launch) {e : Env} {s : State} {m : MethodId} {args : Array Value} {below : List Frame} {meth : Method} {c : Code} {A : Nat → Prop} {D : va_G} {tys : List (ClassId × FieldType)} {cI cJ : ClassId} {mi e0 : Nat} {sa : Nat → Nat} {shm : xS} {adm : Nat → Nat} {LI : Nat → xS → (Nat → Nat) → xV → xV → Prop} {b L : Nat} {xs : Nat → Int32} {Q : State → Prop} (E : xE mi e0 A s s.heap) (F : xF sa A s s.heap) (hN : xN s) (hX : va_X b L xs s s.heap) (hbl : b < s.heap.size) (hbA : ¬ A b) (hL : L ≤ 3072) (Mm : xMm shm adm cI tys) (hAm : ∀ (i : Nat) (mk : (Nat → Int32) → va_E), shm i = some mk → A (adm i)) (hT3 : tys[3]? = some (cJ, .long)) (hDo9 : ∀ t sh ad V Vm, LI t sh ad V Vm → xDo sh ad cI ∧ sh 16 = some (oMk cJ))
    (hP : LawP l D tys mi e0 sa shm adm LI yL_copies wsL_copies yX3_copies wsX3_copies 2 2) {t i cells slots : Nat} (ht : t < 512) (hi : i + 6 ≤ L) (hcs : cells + 8 ≤ room_1.cells ∧ slots + 180 ≤ room_1.slots) {sh : xS} {ad : Nat → Nat} {V Vm : xV} {H : Heap} {locs : List Loc} {ls : Array Slot} (hS : LSt D tys cI cJ shm adm LI b p s m args meth c A t i sh ad V Vm H locs ls)
    (cont : ∀ (sh : xS) (ad : Nat → Nat) (V Vm : xV) (H : Heap) (locs : List Loc) (ls : Array Slot), LSt D tys cI cJ shm adm LI b p s m args meth c A (t + 1) i sh ad V Vm H locs ls → W p l e room_1 s m args below meth c H locs (cells + 8) (slots + 180) Q (F0 m 1417 ls [])) :
    W p l e room_1 s m args below meth c H locs cells slots Q (F0 m 846 ls []) := by
  obtain ⟨B, G, Gm, hap, hLI, hDo, hl⟩ := hS
  have hx := B.1.1
  have hb := B.1.2.1
  have hIm := Mm.2.2
  have hcc : room_1.cells = 601024 := rfl
  have hcd : room_1.slots = 7293034 := rfl
  obtain ⟨r, o, Vm', hW, hM, hthr⟩ := hP t sh ad V Vm [xs (i + 1), xs (i + 2)] rfl ht hLI
  refine lv_aload_n hx hb dL_law_846 rfl (lv_at hl 1 rfl) ?_
  refine lv_aload_n hx hb dL_law_847 rfl (lv_at hl 0 rfl) ?_
  refine lv_iload hx hb dL_law_848 (lv_at hl 4 rfl) ?_
  refine lv_iconst (v := 1) hx hb dL_law_850 (by decide) ?_
  refine lv_iadd hx hb dL_law_851 ?_
  refine x_top (show (nI i) + 1 = nI (i + 1) from nI_add i 1) ?_
  refine va_sld hx hb hX hbl hbA G.2 (vp_in_nI (show i + 1 < L by omega) (by omega)) dL_law_852 ?_
  rw [nI_clamp (show i + 1 < 2 ^ 31 by omega)]
  refine lv_aload_n hx hb dL_law_853 rfl (lv_at hl 0 rfl) ?_
  refine lv_iload hx hb dL_law_854 (lv_at hl 4 rfl) ?_
  refine lv_iconst (v := 2) hx hb dL_law_856 (by decide) ?_
  refine lv_iadd hx hb dL_law_857 ?_
  refine x_top (show (nI i) + 2 = nI (i + 2) from nI_add i 2) ?_
  refine va_sld hx hb hX hbl hbA G.2 (vp_in_nI (show i + 2 < L by omega) (by omega)) dL_law_858 ?_
  rw [nI_clamp (show i + 2 < 2 ^ 31 by omega)]
  refine lv_aload_n hx hb dL_law_859 rfl (lv_at hl 3 rfl) ?_
  refine x_callSw (rest := []) (fun H1 => xW D shm adm Vm H1) B E F hN G (fun H1 hz hk => Gm.keepK hap hk) hW (vx_cwSW 4 B.1.2.2.2.2 gL_law_L_copies rfl rfl rfl (by decide +kernel) ⟨Nat.le_of_ble_eq_true rfl, Nat.le_of_ble_eq_true rfl⟩) rfl hl.1 rfl (Nat.le_of_ble_eq_true rfl) hcs dL_law_860 (fun v sh1 ad1 V1 H1 locs hR Gm1 hA1 B G => ?_)
  obtain ⟨rfl, hLI1, e_0, e_16, hans⟩ := hR
  have hap1 := hap.after Gm hA1
  have hDo1 := hDo9 _ _ _ _ _ hLI1
  have hl : lv_has ls 7 [(0, .ref b), (1, .ref (ad1 0)), (2, .ref (adm 17)), (3, .ref (ad1 16)), (4, .int (nI i))] := lv_cast hl (by rw [e_0, e_16])
  refine W.eq (g2 := F0 m 863 ls [.int r]) rfl ?_
  refine lv_istore (lv' := [(5, .int r), (0, .ref b), (1, .ref (ad1 0)), (2, .ref (adm 17)), (3, .ref (ad1 16)), (4, .int (nI i))]) hx hb dL_law_863 hl (by decide) rfl (fun ls hl => ?_)
  refine lv_aload_n hx hb dL_law_865 rfl (lv_at hl 3 rfl) ?_
  refine lv_aload_n hx hb dL_law_866 rfl (lv_at hl 1 rfl) ?_
  refine lv_iload hx hb dL_law_867 (lv_at hl 5 rfl) ?_
  refine lv_iconst (v := 1) hx hb dL_law_869 (by decide) ?_
  refine lv_iadd hx hb dL_law_870 ?_
  refine x_top (show (nI i) + 1 = nI (i + 1) from nI_add i 1) ?_
  refine va_sld hx hb hX hbl hbA G.2 (vp_in_nI (show i + 1 < L by omega) (by omega)) dL_law_871 ?_
  rw [nI_clamp (show i + 1 < 2 ^ 31 by omega)]
  refine lv_aload_n hx hb dL_law_872 rfl (lv_at hl 1 rfl) ?_
  refine lv_iload hx hb dL_law_873 (lv_at hl 5 rfl) ?_
  refine lv_iconst (v := 2) hx hb dL_law_875 (by decide) ?_
  refine lv_iadd hx hb dL_law_876 ?_
  refine x_top (show (nI i) + 2 = nI (i + 2) from nI_add i 2) ?_
  refine va_sld hx hb hX hbl hbA G.2 (vp_in_nI (show i + 2 < L by omega) (by omega)) dL_law_877 ?_
  rw [nI_clamp (show i + 2 < 2 ^ 31 by omega)]
  refine x_callViK (rest := []) (fun H1 => xW D sh1 ad1 V1 H1) (xB.of B hIm hAm) ⟨Gm1, G.2⟩ (fun H1 hz hk => (show xW D sh1 ad1 V1 _ from G.1).keepK hap1.symm hk) hM (cwV 2 B.1.2.2.2.2 gL_law_X3_copies rfl rfl rfl (by decide +kernel) ⟨Nat.le_of_ble_eq_true rfl, Nat.le_of_ble_eq_true rfl⟩) (x_recv (xB.of B hIm hAm) ⟨Gm1, G.2⟩ 17 (q := (RX3, TX3, 21)) Mm.2.1.1 rfl) rfl hl.1 rfl (Nat.le_of_ble_eq_true rfl) ⟨by omega, by omega⟩ dL_law_878 (fun H2 locs Gc G2 => ?_)
  have Gm2 := G2.1
  have G : xG D sh1 ad1 A s.heap V1 H2 locs := ⟨Gc, G2.2⟩
  refine lv_istore (lv' := [(6, .int o), (5, .int r), (0, .ref b), (1, .ref (ad1 0)), (2, .ref (adm 17)), (3, .ref (ad1 16)), (4, .int (nI i))]) hx hb dL_law_881 hl (by decide) rfl (fun ls hl => ?_)
  refine lv_aload_n hx hb dL_law_883 rfl (lv_at hl 4 rfl) ?_
  refine x_callViK (rest := []) (fun H1 => xW D sh1 ad1 V1 H1) (xB.of B hIm hAm) ⟨Gm2, G.2⟩ (fun H1 hz hk => (show xW D sh1 ad1 V1 _ from G.1).keepK hap1.symm hk) (c_X3_thrown l Mm Vm') (cwV 0 B.1.2.2.2.2 gL_law_X3_thrown rfl rfl rfl (by decide +kernel) ⟨Nat.le_of_ble_eq_true rfl, Nat.le_of_ble_eq_true rfl⟩) (x_recv (xB.of B hIm hAm) ⟨Gm2, G.2⟩ 17 (q := (RX3, TX3, 21)) Mm.2.1.1 rfl) rfl hl.1 rfl (Nat.le_of_ble_eq_true rfl) ⟨by omega, by omega⟩ dL_law_884 (fun H3 locs Gc G3 => ?_)
  have Gm3 := G3.1
  have G : xG D sh1 ad1 A s.heap V1 H3 locs := ⟨Gc, G3.2⟩
  refine lv_iload hx hb dL_law_887 (lv_at hl 1 rfl) ?_
  refine lv_icmp_eq (tgt := 894) hx hb dL_law_889 (by decide) (fun c_889 => ?_) (fun c_889 => ?_)
  · skip
    refine lv_iload hx hb dL_law_894 (lv_at hl 1 rfl) ?_
    refine lv_if_ne (tgt := 911) hx hb dL_law_896 (by decide) (fun c_896 => ?_) (fun c_896 => ?_)
    · skip
      refine lv_goto (tgt := 1417) hx hb dL_law_911 (by decide) ?_
      have hl := lv_sub (l' := [(0, .ref b), (1, .ref (ad1 0)), (2, .ref (adm 17)), (3, .ref (ad1 16)), (4, .int (nI i))]) hl [2, 3, 4, 5, 6] rfl
      exact cont sh1 ad1 V1 Vm' H3 locs ls ⟨B, G, Gm3, hap1, hLI1, hDo1, hl⟩
    · skip
      refine lv_aload_n hx hb dL_law_899 rfl (lv_at hl 5 rfl) ?_
      refine lv_iconst (v := 0) hx hb dL_law_900 (by decide) ?_
      refine x_lld B G hDo1.2 hT3 dL_law_901 ?_
      refine lv_iload hx hb dL_law_902 (lv_at hl 0 rfl) ?_
      refine lv_i2l hx hb dL_law_904 rfl ?_
      refine W.lcmp hx hb dL_law_905 ?_
      refine x_top (show _ = 0 from l_cmp0 (by rw [hans c_896])) ?_
      refine lv_if_eq (tgt := 911) hx hb dL_law_906 (by decide) (fun c_906 => ?_) (fun c_906 => ?_)
      · skip
        refine lv_goto (tgt := 1417) hx hb dL_law_911 (by decide) ?_
        have hl := lv_sub (l' := [(0, .ref b), (1, .ref (ad1 0)), (2, .ref (adm 17)), (3, .ref (ad1 16)), (4, .int (nI i))]) hl [2, 3, 4, 5, 6] rfl
        exact cont sh1 ad1 V1 Vm' H3 locs ls ⟨B, G, Gm3, hap1, hLI1, hDo1, hl⟩
      · exact False.elim (c_906 (by decide))
  · exact False.elim (c_889 hthr)
set_option maxHeartbeats 1000000 in
set_option maxRecDepth 100000 in
theorem law_knows {p : Program} (l : Launch) {e : Env} {s : State} {m : MethodId} {args : Array Value} {below : List Frame} {meth : Method} {c : Code} {A : Nat → Prop} {D : va_G} {tys : List (ClassId × FieldType)} {cI cJ : ClassId} {mi e0 : Nat} {sa : Nat → Nat} {shm : xS} {adm : Nat → Nat} {LI : Nat → xS → (Nat → Nat) → xV → xV → Prop} {b L : Nat} {xs : Nat → Int32} {Q : State → Prop} (E : xE mi e0 A s s.heap) (F : xF sa A s s.heap) (hN : xN s) (hX : va_X b L xs s s.heap) (hbl : b < s.heap.size) (hbA : ¬ A b) (hL : L ≤ 3072) (Mm : xMm shm adm cI tys) (hAm : ∀ (i : Nat) (mk : (Nat → Int32) → va_E), shm i = some mk → A (adm i)) (hT3 : tys[3]? = some (cJ, .long)) (hDo9 : ∀ t sh ad V Vm, LI t sh ad V Vm → xDo sh ad cI ∧ sh 16 = some (oMk cJ))
    (hP : LawB l D tys mi e0 sa shm adm LI yL_knows wsL_knows yX3_knows wsX3_knows 2 2) {t i cells slots : Nat} (ht : t < 512) (hi : i + 6 ≤ L) (hcs : cells + 8 ≤ room_1.cells ∧ slots + 180 ≤ room_1.slots) {sh : xS} {ad : Nat → Nat} {V Vm : xV} {H : Heap} {locs : List Loc} {ls : Array Slot} (hS : LSt D tys cI cJ shm adm LI b p s m args meth c A t i sh ad V Vm H locs ls)
    (cont : ∀ (sh : xS) (ad : Nat → Nat) (V Vm : xV) (H : Heap) (locs : List Loc) (ls : Array Slot), LSt D tys cI cJ shm adm LI b p s m args meth c A (t + 1) i sh ad V Vm H locs ls → W p l e room_1 s m args below meth c H locs (cells + 8) (slots + 180) Q (F0 m 1417 ls [])) :
    W p l e room_1 s m args below meth c H locs cells slots Q (F0 m 914 ls []) := by
  obtain ⟨B, G, Gm, hap, hLI, hDo, hl⟩ := hS
  have hx := B.1.1
  have hb := B.1.2.1
  have hIm := Mm.2.2
  have hcc : room_1.cells = 601024 := rfl
  have hcd : room_1.slots = 7293034 := rfl
  obtain ⟨r, o, Vm', hW, hM, hthr, hob⟩ := hP t sh ad V Vm [xs (i + 1), xs (i + 2)] rfl ht hLI
  refine lv_aload_n hx hb dL_law_914 rfl (lv_at hl 1 rfl) ?_
  refine lv_aload_n hx hb dL_law_915 rfl (lv_at hl 0 rfl) ?_
  refine lv_iload hx hb dL_law_916 (lv_at hl 4 rfl) ?_
  refine lv_iconst (v := 1) hx hb dL_law_918 (by decide) ?_
  refine lv_iadd hx hb dL_law_919 ?_
  refine x_top (show (nI i) + 1 = nI (i + 1) from nI_add i 1) ?_
  refine va_sld hx hb hX hbl hbA G.2 (vp_in_nI (show i + 1 < L by omega) (by omega)) dL_law_920 ?_
  rw [nI_clamp (show i + 1 < 2 ^ 31 by omega)]
  refine lv_aload_n hx hb dL_law_921 rfl (lv_at hl 0 rfl) ?_
  refine lv_iload hx hb dL_law_922 (lv_at hl 4 rfl) ?_
  refine lv_iconst (v := 2) hx hb dL_law_924 (by decide) ?_
  refine lv_iadd hx hb dL_law_925 ?_
  refine x_top (show (nI i) + 2 = nI (i + 2) from nI_add i 2) ?_
  refine va_sld hx hb hX hbl hbA G.2 (vp_in_nI (show i + 2 < L by omega) (by omega)) dL_law_926 ?_
  rw [nI_clamp (show i + 2 < 2 ^ 31 by omega)]
  refine lv_aload_n hx hb dL_law_927 rfl (lv_at hl 3 rfl) ?_
  refine x_callSw (rest := []) (fun H1 => xW D shm adm Vm H1) B E F hN G (fun H1 hz hk => Gm.keepK hap hk) hW (vx_cwSW 4 B.1.2.2.2.2 gL_law_L_knows rfl rfl rfl (by decide +kernel) ⟨Nat.le_of_ble_eq_true rfl, Nat.le_of_ble_eq_true rfl⟩) rfl hl.1 rfl (Nat.le_of_ble_eq_true rfl) hcs dL_law_928 (fun v sh1 ad1 V1 H1 locs hR Gm1 hA1 B G => ?_)
  obtain ⟨rfl, hLI1, e_0, e_16, hans⟩ := hR
  have hap1 := hap.after Gm hA1
  have hDo1 := hDo9 _ _ _ _ _ hLI1
  have hl : lv_has ls 7 [(0, .ref b), (1, .ref (ad1 0)), (2, .ref (adm 17)), (3, .ref (ad1 16)), (4, .int (nI i))] := lv_cast hl (by rw [e_0, e_16])
  refine W.eq (g2 := F0 m 931 ls [.int r]) rfl ?_
  refine lv_istore (lv' := [(5, .int r), (0, .ref b), (1, .ref (ad1 0)), (2, .ref (adm 17)), (3, .ref (ad1 16)), (4, .int (nI i))]) hx hb dL_law_931 hl (by decide) rfl (fun ls hl => ?_)
  refine lv_aload_n hx hb dL_law_933 rfl (lv_at hl 3 rfl) ?_
  refine lv_aload_n hx hb dL_law_934 rfl (lv_at hl 1 rfl) ?_
  refine lv_iload hx hb dL_law_935 (lv_at hl 5 rfl) ?_
  refine lv_iconst (v := 1) hx hb dL_law_937 (by decide) ?_
  refine lv_iadd hx hb dL_law_938 ?_
  refine x_top (show (nI i) + 1 = nI (i + 1) from nI_add i 1) ?_
  refine va_sld hx hb hX hbl hbA G.2 (vp_in_nI (show i + 1 < L by omega) (by omega)) dL_law_939 ?_
  rw [nI_clamp (show i + 1 < 2 ^ 31 by omega)]
  refine lv_aload_n hx hb dL_law_940 rfl (lv_at hl 1 rfl) ?_
  refine lv_iload hx hb dL_law_941 (lv_at hl 5 rfl) ?_
  refine lv_iconst (v := 2) hx hb dL_law_943 (by decide) ?_
  refine lv_iadd hx hb dL_law_944 ?_
  refine x_top (show (nI i) + 2 = nI (i + 2) from nI_add i 2) ?_
  refine va_sld hx hb hX hbl hbA G.2 (vp_in_nI (show i + 2 < L by omega) (by omega)) dL_law_945 ?_
  rw [nI_clamp (show i + 2 < 2 ^ 31 by omega)]
  refine x_callViK (rest := []) (fun H1 => xW D sh1 ad1 V1 H1) (xB.of B hIm hAm) ⟨Gm1, G.2⟩ (fun H1 hz hk => (show xW D sh1 ad1 V1 _ from G.1).keepK hap1.symm hk) hM (cwV 2 B.1.2.2.2.2 gL_law_X3_knows rfl rfl rfl (by decide +kernel) ⟨Nat.le_of_ble_eq_true rfl, Nat.le_of_ble_eq_true rfl⟩) (x_recv (xB.of B hIm hAm) ⟨Gm1, G.2⟩ 17 (q := (RX3, TX3, 21)) Mm.2.1.1 rfl) rfl hl.1 rfl (Nat.le_of_ble_eq_true rfl) ⟨by omega, by omega⟩ dL_law_946 (fun H2 locs Gc G2 => ?_)
  have Gm2 := G2.1
  have G : xG D sh1 ad1 A s.heap V1 H2 locs := ⟨Gc, G2.2⟩
  refine lv_istore (lv' := [(6, .int o), (5, .int r), (0, .ref b), (1, .ref (ad1 0)), (2, .ref (adm 17)), (3, .ref (ad1 16)), (4, .int (nI i))]) hx hb dL_law_949 hl (by decide) rfl (fun ls hl => ?_)
  refine lv_aload_n hx hb dL_law_951 rfl (lv_at hl 4 rfl) ?_
  refine x_callViK (rest := []) (fun H1 => xW D sh1 ad1 V1 H1) (xB.of B hIm hAm) ⟨Gm2, G.2⟩ (fun H1 hz hk => (show xW D sh1 ad1 V1 _ from G.1).keepK hap1.symm hk) (c_X3_thrown l Mm Vm') (cwV 0 B.1.2.2.2.2 gL_law_X3_thrown rfl rfl rfl (by decide +kernel) ⟨Nat.le_of_ble_eq_true rfl, Nat.le_of_ble_eq_true rfl⟩) (x_recv (xB.of B hIm hAm) ⟨Gm2, G.2⟩ 17 (q := (RX3, TX3, 21)) Mm.2.1.1 rfl) rfl hl.1 rfl (Nat.le_of_ble_eq_true rfl) ⟨by omega, by omega⟩ dL_law_952 (fun H3 locs Gc G3 => ?_)
  have Gm3 := G3.1
  have G : xG D sh1 ad1 A s.heap V1 H3 locs := ⟨Gc, G3.2⟩
  refine lv_iload hx hb dL_law_955 (lv_at hl 1 rfl) ?_
  refine lv_icmp_eq (tgt := 962) hx hb dL_law_957 (by decide) (fun c_957 => ?_) (fun c_957 => ?_)
  · skip
    refine lv_iload hx hb dL_law_962 (lv_at hl 1 rfl) ?_
    refine lv_if_ne (tgt := 986) hx hb dL_law_964 (by decide) (fun c_964 => ?_) (fun c_964 => ?_)
    · skip
      refine lv_goto (tgt := 1417) hx hb dL_law_986 (by decide) ?_
      have hl := lv_sub (l' := [(0, .ref b), (1, .ref (ad1 0)), (2, .ref (adm 17)), (3, .ref (ad1 16)), (4, .int (nI i))]) hl [2, 3, 4, 5, 6] rfl
      exact cont sh1 ad1 V1 Vm' H3 locs ls ⟨B, G, Gm3, hap1, hLI1, hDo1, hl⟩
    · skip
      refine lv_aload_n hx hb dL_law_967 rfl (lv_at hl 5 rfl) ?_
      refine lv_iconst (v := 0) hx hb dL_law_968 (by decide) ?_
      refine x_lld B G hDo1.2 hT3 dL_law_969 ?_
      refine lv_iload hx hb dL_law_970 (lv_at hl 0 rfl) ?_
      refine lv_if_eq (tgt := 979) hx hb dL_law_972 (by decide) (fun c_972 => ?_) (fun c_972 => ?_)
      · skip
        refine lv_lconst (v := 0) hx hb dL_law_979 rfl ?_
        refine W.lcmp hx hb dL_law_980 ?_
        refine x_top (show _ = 0 from l_cmp0 (by rw [hans c_964, c_972]; rfl)) ?_
        refine lv_if_eq (tgt := 986) hx hb dL_law_981 (by decide) (fun c_981 => ?_) (fun c_981 => ?_)
        · skip
          refine lv_goto (tgt := 1417) hx hb dL_law_986 (by decide) ?_
          have hl := lv_sub (l' := [(0, .ref b), (1, .ref (ad1 0)), (2, .ref (adm 17)), (3, .ref (ad1 16)), (4, .int (nI i))]) hl [2, 3, 4, 5, 6] rfl
          exact cont sh1 ad1 V1 Vm' H3 locs ls ⟨B, G, Gm3, hap1, hLI1, hDo1, hl⟩
        · exact False.elim (c_981 (by decide))
      · skip
        refine lv_lconst (v := 1) hx hb dL_law_975 rfl ?_
        refine lv_goto (tgt := 980) hx hb dL_law_976 (by decide) ?_
        refine W.lcmp hx hb dL_law_980 ?_
        refine x_top (show _ = 0 from l_cmp0 (by rw [hans c_964, hob.resolve_left c_972]; rfl)) ?_
        refine lv_if_eq (tgt := 986) hx hb dL_law_981 (by decide) (fun c_981 => ?_) (fun c_981 => ?_)
        · skip
          refine lv_goto (tgt := 1417) hx hb dL_law_986 (by decide) ?_
          have hl := lv_sub (l' := [(0, .ref b), (1, .ref (ad1 0)), (2, .ref (adm 17)), (3, .ref (ad1 16)), (4, .int (nI i))]) hl [2, 3, 4, 5, 6] rfl
          exact cont sh1 ad1 V1 Vm' H3 locs ls ⟨B, G, Gm3, hap1, hLI1, hDo1, hl⟩
        · exact False.elim (c_981 (by decide))
  · exact False.elim (c_957 hthr)
set_option maxHeartbeats 1000000 in
set_option maxRecDepth 100000 in
theorem law_held {p : Program} (l : Launch) {e : Env} {s : State} {m : MethodId} {args : Array Value} {below : List Frame} {meth : Method} {c : Code} {A : Nat → Prop} {D : va_G} {tys : List (ClassId × FieldType)} {cI cJ : ClassId} {mi e0 : Nat} {sa : Nat → Nat} {shm : xS} {adm : Nat → Nat} {LI : Nat → xS → (Nat → Nat) → xV → xV → Prop} {b L : Nat} {xs : Nat → Int32} {Q : State → Prop} (E : xE mi e0 A s s.heap) (F : xF sa A s s.heap) (hN : xN s) (hX : va_X b L xs s s.heap) (hbl : b < s.heap.size) (hbA : ¬ A b) (hL : L ≤ 3072) (Mm : xMm shm adm cI tys) (hAm : ∀ (i : Nat) (mk : (Nat → Int32) → va_E), shm i = some mk → A (adm i)) (hT3 : tys[3]? = some (cJ, .long)) (hDo9 : ∀ t sh ad V Vm, LI t sh ad V Vm → xDo sh ad cI ∧ sh 16 = some (oMk cJ))
    (hP : LawP l D tys mi e0 sa shm adm LI yL_held wsL_held yX3_held wsX3_held 2 1) {t i cells slots : Nat} (ht : t < 512) (hi : i + 6 ≤ L) (hcs : cells + 8 ≤ room_1.cells ∧ slots + 180 ≤ room_1.slots) {sh : xS} {ad : Nat → Nat} {V Vm : xV} {H : Heap} {locs : List Loc} {ls : Array Slot} (hS : LSt D tys cI cJ shm adm LI b p s m args meth c A t i sh ad V Vm H locs ls)
    (cont : ∀ (sh : xS) (ad : Nat → Nat) (V Vm : xV) (H : Heap) (locs : List Loc) (ls : Array Slot), LSt D tys cI cJ shm adm LI b p s m args meth c A (t + 1) i sh ad V Vm H locs ls → W p l e room_1 s m args below meth c H locs (cells + 8) (slots + 180) Q (F0 m 1417 ls [])) :
    W p l e room_1 s m args below meth c H locs cells slots Q (F0 m 989 ls []) := by
  obtain ⟨B, G, Gm, hap, hLI, hDo, hl⟩ := hS
  have hx := B.1.1
  have hb := B.1.2.1
  have hIm := Mm.2.2
  have hcc : room_1.cells = 601024 := rfl
  have hcd : room_1.slots = 7293034 := rfl
  obtain ⟨r, o, Vm', hW, hM, hthr⟩ := hP t sh ad V Vm [xs (i + 1)] rfl ht hLI
  refine lv_aload_n hx hb dL_law_989 rfl (lv_at hl 1 rfl) ?_
  refine lv_aload_n hx hb dL_law_990 rfl (lv_at hl 0 rfl) ?_
  refine lv_iload hx hb dL_law_991 (lv_at hl 4 rfl) ?_
  refine lv_iconst (v := 1) hx hb dL_law_993 (by decide) ?_
  refine lv_iadd hx hb dL_law_994 ?_
  refine x_top (show (nI i) + 1 = nI (i + 1) from nI_add i 1) ?_
  refine va_sld hx hb hX hbl hbA G.2 (vp_in_nI (show i + 1 < L by omega) (by omega)) dL_law_995 ?_
  rw [nI_clamp (show i + 1 < 2 ^ 31 by omega)]
  refine lv_aload_n hx hb dL_law_996 rfl (lv_at hl 3 rfl) ?_
  refine x_callSw (rest := []) (fun H1 => xW D shm adm Vm H1) B E F hN G (fun H1 hz hk => Gm.keepK hap hk) hW (vx_cwSW 3 B.1.2.2.2.2 gL_law_L_held rfl rfl rfl (by decide +kernel) ⟨Nat.le_of_ble_eq_true rfl, Nat.le_of_ble_eq_true rfl⟩) rfl hl.1 rfl (Nat.le_of_ble_eq_true rfl) hcs dL_law_997 (fun v sh1 ad1 V1 H1 locs hR Gm1 hA1 B G => ?_)
  obtain ⟨rfl, hLI1, e_0, e_16, hans⟩ := hR
  have hap1 := hap.after Gm hA1
  have hDo1 := hDo9 _ _ _ _ _ hLI1
  have hl : lv_has ls 7 [(0, .ref b), (1, .ref (ad1 0)), (2, .ref (adm 17)), (3, .ref (ad1 16)), (4, .int (nI i))] := lv_cast hl (by rw [e_0, e_16])
  refine W.eq (g2 := F0 m 1000 ls [.int r]) rfl ?_
  refine lv_istore (lv' := [(5, .int r), (0, .ref b), (1, .ref (ad1 0)), (2, .ref (adm 17)), (3, .ref (ad1 16)), (4, .int (nI i))]) hx hb dL_law_1000 hl (by decide) rfl (fun ls hl => ?_)
  refine lv_aload_n hx hb dL_law_1002 rfl (lv_at hl 3 rfl) ?_
  refine lv_aload_n hx hb dL_law_1003 rfl (lv_at hl 1 rfl) ?_
  refine lv_iload hx hb dL_law_1004 (lv_at hl 5 rfl) ?_
  refine lv_iconst (v := 1) hx hb dL_law_1006 (by decide) ?_
  refine lv_iadd hx hb dL_law_1007 ?_
  refine x_top (show (nI i) + 1 = nI (i + 1) from nI_add i 1) ?_
  refine va_sld hx hb hX hbl hbA G.2 (vp_in_nI (show i + 1 < L by omega) (by omega)) dL_law_1008 ?_
  rw [nI_clamp (show i + 1 < 2 ^ 31 by omega)]
  refine x_callViK (rest := []) (fun H1 => xW D sh1 ad1 V1 H1) (xB.of B hIm hAm) ⟨Gm1, G.2⟩ (fun H1 hz hk => (show xW D sh1 ad1 V1 _ from G.1).keepK hap1.symm hk) hM (cwV 1 B.1.2.2.2.2 gL_law_X3_held rfl rfl rfl (by decide +kernel) ⟨Nat.le_of_ble_eq_true rfl, Nat.le_of_ble_eq_true rfl⟩) (x_recv (xB.of B hIm hAm) ⟨Gm1, G.2⟩ 17 (q := (RX3, TX3, 21)) Mm.2.1.1 rfl) rfl hl.1 rfl (Nat.le_of_ble_eq_true rfl) ⟨by omega, by omega⟩ dL_law_1009 (fun H2 locs Gc G2 => ?_)
  have Gm2 := G2.1
  have G : xG D sh1 ad1 A s.heap V1 H2 locs := ⟨Gc, G2.2⟩
  refine lv_istore (lv' := [(6, .int o), (5, .int r), (0, .ref b), (1, .ref (ad1 0)), (2, .ref (adm 17)), (3, .ref (ad1 16)), (4, .int (nI i))]) hx hb dL_law_1012 hl (by decide) rfl (fun ls hl => ?_)
  refine lv_aload_n hx hb dL_law_1014 rfl (lv_at hl 4 rfl) ?_
  refine x_callViK (rest := []) (fun H1 => xW D sh1 ad1 V1 H1) (xB.of B hIm hAm) ⟨Gm2, G.2⟩ (fun H1 hz hk => (show xW D sh1 ad1 V1 _ from G.1).keepK hap1.symm hk) (c_X3_thrown l Mm Vm') (cwV 0 B.1.2.2.2.2 gL_law_X3_thrown rfl rfl rfl (by decide +kernel) ⟨Nat.le_of_ble_eq_true rfl, Nat.le_of_ble_eq_true rfl⟩) (x_recv (xB.of B hIm hAm) ⟨Gm2, G.2⟩ 17 (q := (RX3, TX3, 21)) Mm.2.1.1 rfl) rfl hl.1 rfl (Nat.le_of_ble_eq_true rfl) ⟨by omega, by omega⟩ dL_law_1015 (fun H3 locs Gc G3 => ?_)
  have Gm3 := G3.1
  have G : xG D sh1 ad1 A s.heap V1 H3 locs := ⟨Gc, G3.2⟩
  refine lv_iload hx hb dL_law_1018 (lv_at hl 1 rfl) ?_
  refine lv_icmp_eq (tgt := 1025) hx hb dL_law_1020 (by decide) (fun c_1020 => ?_) (fun c_1020 => ?_)
  · skip
    refine lv_iload hx hb dL_law_1025 (lv_at hl 1 rfl) ?_
    refine lv_if_ne (tgt := 1042) hx hb dL_law_1027 (by decide) (fun c_1027 => ?_) (fun c_1027 => ?_)
    · skip
      refine lv_goto (tgt := 1417) hx hb dL_law_1042 (by decide) ?_
      have hl := lv_sub (l' := [(0, .ref b), (1, .ref (ad1 0)), (2, .ref (adm 17)), (3, .ref (ad1 16)), (4, .int (nI i))]) hl [2, 3, 4, 5, 6] rfl
      exact cont sh1 ad1 V1 Vm' H3 locs ls ⟨B, G, Gm3, hap1, hLI1, hDo1, hl⟩
    · skip
      refine lv_aload_n hx hb dL_law_1030 rfl (lv_at hl 5 rfl) ?_
      refine lv_iconst (v := 0) hx hb dL_law_1031 (by decide) ?_
      refine x_lld B G hDo1.2 hT3 dL_law_1032 ?_
      refine lv_iload hx hb dL_law_1033 (lv_at hl 0 rfl) ?_
      refine lv_i2l hx hb dL_law_1035 rfl ?_
      refine W.lcmp hx hb dL_law_1036 ?_
      refine x_top (show _ = 0 from l_cmp0 (by rw [hans c_1027])) ?_
      refine lv_if_eq (tgt := 1042) hx hb dL_law_1037 (by decide) (fun c_1037 => ?_) (fun c_1037 => ?_)
      · skip
        refine lv_goto (tgt := 1417) hx hb dL_law_1042 (by decide) ?_
        have hl := lv_sub (l' := [(0, .ref b), (1, .ref (ad1 0)), (2, .ref (adm 17)), (3, .ref (ad1 16)), (4, .int (nI i))]) hl [2, 3, 4, 5, 6] rfl
        exact cont sh1 ad1 V1 Vm' H3 locs ls ⟨B, G, Gm3, hap1, hLI1, hDo1, hl⟩
      · exact False.elim (c_1037 (by decide))
  · exact False.elim (c_1020 hthr)
set_option maxHeartbeats 1000000 in
set_option maxRecDepth 100000 in
theorem law_heldAt {p : Program} (l : Launch) {e : Env} {s : State} {m : MethodId} {args : Array Value} {below : List Frame} {meth : Method} {c : Code} {A : Nat → Prop} {D : va_G} {tys : List (ClassId × FieldType)} {cI cJ : ClassId} {mi e0 : Nat} {sa : Nat → Nat} {shm : xS} {adm : Nat → Nat} {LI : Nat → xS → (Nat → Nat) → xV → xV → Prop} {b L : Nat} {xs : Nat → Int32} {Q : State → Prop} (E : xE mi e0 A s s.heap) (F : xF sa A s s.heap) (hN : xN s) (hX : va_X b L xs s s.heap) (hbl : b < s.heap.size) (hbA : ¬ A b) (hL : L ≤ 3072) (Mm : xMm shm adm cI tys) (hAm : ∀ (i : Nat) (mk : (Nat → Int32) → va_E), shm i = some mk → A (adm i)) (hT3 : tys[3]? = some (cJ, .long)) (hDo9 : ∀ t sh ad V Vm, LI t sh ad V Vm → xDo sh ad cI ∧ sh 16 = some (oMk cJ))
    (hP : LawP l D tys mi e0 sa shm adm LI yL_heldAt wsL_heldAt yX3_heldAt wsX3_heldAt 2 2) {t i cells slots : Nat} (ht : t < 512) (hi : i + 6 ≤ L) (hcs : cells + 8 ≤ room_1.cells ∧ slots + 180 ≤ room_1.slots) {sh : xS} {ad : Nat → Nat} {V Vm : xV} {H : Heap} {locs : List Loc} {ls : Array Slot} (hS : LSt D tys cI cJ shm adm LI b p s m args meth c A t i sh ad V Vm H locs ls)
    (cont : ∀ (sh : xS) (ad : Nat → Nat) (V Vm : xV) (H : Heap) (locs : List Loc) (ls : Array Slot), LSt D tys cI cJ shm adm LI b p s m args meth c A (t + 1) i sh ad V Vm H locs ls → W p l e room_1 s m args below meth c H locs (cells + 8) (slots + 180) Q (F0 m 1417 ls [])) :
    W p l e room_1 s m args below meth c H locs cells slots Q (F0 m 1045 ls []) := by
  obtain ⟨B, G, Gm, hap, hLI, hDo, hl⟩ := hS
  have hx := B.1.1
  have hb := B.1.2.1
  have hIm := Mm.2.2
  have hcc : room_1.cells = 601024 := rfl
  have hcd : room_1.slots = 7293034 := rfl
  obtain ⟨r, o, Vm', hW, hM, hthr⟩ := hP t sh ad V Vm [xs (i + 1), xs (i + 2)] rfl ht hLI
  refine lv_aload_n hx hb dL_law_1045 rfl (lv_at hl 1 rfl) ?_
  refine lv_aload_n hx hb dL_law_1046 rfl (lv_at hl 0 rfl) ?_
  refine lv_iload hx hb dL_law_1047 (lv_at hl 4 rfl) ?_
  refine lv_iconst (v := 1) hx hb dL_law_1049 (by decide) ?_
  refine lv_iadd hx hb dL_law_1050 ?_
  refine x_top (show (nI i) + 1 = nI (i + 1) from nI_add i 1) ?_
  refine va_sld hx hb hX hbl hbA G.2 (vp_in_nI (show i + 1 < L by omega) (by omega)) dL_law_1051 ?_
  rw [nI_clamp (show i + 1 < 2 ^ 31 by omega)]
  refine lv_aload_n hx hb dL_law_1052 rfl (lv_at hl 0 rfl) ?_
  refine lv_iload hx hb dL_law_1053 (lv_at hl 4 rfl) ?_
  refine lv_iconst (v := 2) hx hb dL_law_1055 (by decide) ?_
  refine lv_iadd hx hb dL_law_1056 ?_
  refine x_top (show (nI i) + 2 = nI (i + 2) from nI_add i 2) ?_
  refine va_sld hx hb hX hbl hbA G.2 (vp_in_nI (show i + 2 < L by omega) (by omega)) dL_law_1057 ?_
  rw [nI_clamp (show i + 2 < 2 ^ 31 by omega)]
  refine lv_aload_n hx hb dL_law_1058 rfl (lv_at hl 3 rfl) ?_
  refine x_callSw (rest := []) (fun H1 => xW D shm adm Vm H1) B E F hN G (fun H1 hz hk => Gm.keepK hap hk) hW (vx_cwSW 4 B.1.2.2.2.2 gL_law_L_heldAt rfl rfl rfl (by decide +kernel) ⟨Nat.le_of_ble_eq_true rfl, Nat.le_of_ble_eq_true rfl⟩) rfl hl.1 rfl (Nat.le_of_ble_eq_true rfl) hcs dL_law_1059 (fun v sh1 ad1 V1 H1 locs hR Gm1 hA1 B G => ?_)
  obtain ⟨rfl, hLI1, e_0, e_16, hans⟩ := hR
  have hap1 := hap.after Gm hA1
  have hDo1 := hDo9 _ _ _ _ _ hLI1
  have hl : lv_has ls 7 [(0, .ref b), (1, .ref (ad1 0)), (2, .ref (adm 17)), (3, .ref (ad1 16)), (4, .int (nI i))] := lv_cast hl (by rw [e_0, e_16])
  refine W.eq (g2 := F0 m 1062 ls [.int r]) rfl ?_
  refine lv_istore (lv' := [(5, .int r), (0, .ref b), (1, .ref (ad1 0)), (2, .ref (adm 17)), (3, .ref (ad1 16)), (4, .int (nI i))]) hx hb dL_law_1062 hl (by decide) rfl (fun ls hl => ?_)
  refine lv_aload_n hx hb dL_law_1064 rfl (lv_at hl 3 rfl) ?_
  refine lv_aload_n hx hb dL_law_1065 rfl (lv_at hl 1 rfl) ?_
  refine lv_iload hx hb dL_law_1066 (lv_at hl 5 rfl) ?_
  refine lv_iconst (v := 1) hx hb dL_law_1068 (by decide) ?_
  refine lv_iadd hx hb dL_law_1069 ?_
  refine x_top (show (nI i) + 1 = nI (i + 1) from nI_add i 1) ?_
  refine va_sld hx hb hX hbl hbA G.2 (vp_in_nI (show i + 1 < L by omega) (by omega)) dL_law_1070 ?_
  rw [nI_clamp (show i + 1 < 2 ^ 31 by omega)]
  refine lv_aload_n hx hb dL_law_1071 rfl (lv_at hl 1 rfl) ?_
  refine lv_iload hx hb dL_law_1072 (lv_at hl 5 rfl) ?_
  refine lv_iconst (v := 2) hx hb dL_law_1074 (by decide) ?_
  refine lv_iadd hx hb dL_law_1075 ?_
  refine x_top (show (nI i) + 2 = nI (i + 2) from nI_add i 2) ?_
  refine va_sld hx hb hX hbl hbA G.2 (vp_in_nI (show i + 2 < L by omega) (by omega)) dL_law_1076 ?_
  rw [nI_clamp (show i + 2 < 2 ^ 31 by omega)]
  refine x_callViK (rest := []) (fun H1 => xW D sh1 ad1 V1 H1) (xB.of B hIm hAm) ⟨Gm1, G.2⟩ (fun H1 hz hk => (show xW D sh1 ad1 V1 _ from G.1).keepK hap1.symm hk) hM (cwV 2 B.1.2.2.2.2 gL_law_X3_heldAt rfl rfl rfl (by decide +kernel) ⟨Nat.le_of_ble_eq_true rfl, Nat.le_of_ble_eq_true rfl⟩) (x_recv (xB.of B hIm hAm) ⟨Gm1, G.2⟩ 17 (q := (RX3, TX3, 21)) Mm.2.1.1 rfl) rfl hl.1 rfl (Nat.le_of_ble_eq_true rfl) ⟨by omega, by omega⟩ dL_law_1077 (fun H2 locs Gc G2 => ?_)
  have Gm2 := G2.1
  have G : xG D sh1 ad1 A s.heap V1 H2 locs := ⟨Gc, G2.2⟩
  refine lv_istore (lv' := [(6, .int o), (5, .int r), (0, .ref b), (1, .ref (ad1 0)), (2, .ref (adm 17)), (3, .ref (ad1 16)), (4, .int (nI i))]) hx hb dL_law_1080 hl (by decide) rfl (fun ls hl => ?_)
  refine lv_aload_n hx hb dL_law_1082 rfl (lv_at hl 4 rfl) ?_
  refine x_callViK (rest := []) (fun H1 => xW D sh1 ad1 V1 H1) (xB.of B hIm hAm) ⟨Gm2, G.2⟩ (fun H1 hz hk => (show xW D sh1 ad1 V1 _ from G.1).keepK hap1.symm hk) (c_X3_thrown l Mm Vm') (cwV 0 B.1.2.2.2.2 gL_law_X3_thrown rfl rfl rfl (by decide +kernel) ⟨Nat.le_of_ble_eq_true rfl, Nat.le_of_ble_eq_true rfl⟩) (x_recv (xB.of B hIm hAm) ⟨Gm2, G.2⟩ 17 (q := (RX3, TX3, 21)) Mm.2.1.1 rfl) rfl hl.1 rfl (Nat.le_of_ble_eq_true rfl) ⟨by omega, by omega⟩ dL_law_1083 (fun H3 locs Gc G3 => ?_)
  have Gm3 := G3.1
  have G : xG D sh1 ad1 A s.heap V1 H3 locs := ⟨Gc, G3.2⟩
  refine lv_iload hx hb dL_law_1086 (lv_at hl 1 rfl) ?_
  refine lv_icmp_eq (tgt := 1093) hx hb dL_law_1088 (by decide) (fun c_1088 => ?_) (fun c_1088 => ?_)
  · skip
    refine lv_iload hx hb dL_law_1093 (lv_at hl 1 rfl) ?_
    refine lv_if_ne (tgt := 1110) hx hb dL_law_1095 (by decide) (fun c_1095 => ?_) (fun c_1095 => ?_)
    · skip
      refine lv_goto (tgt := 1417) hx hb dL_law_1110 (by decide) ?_
      have hl := lv_sub (l' := [(0, .ref b), (1, .ref (ad1 0)), (2, .ref (adm 17)), (3, .ref (ad1 16)), (4, .int (nI i))]) hl [2, 3, 4, 5, 6] rfl
      exact cont sh1 ad1 V1 Vm' H3 locs ls ⟨B, G, Gm3, hap1, hLI1, hDo1, hl⟩
    · skip
      refine lv_aload_n hx hb dL_law_1098 rfl (lv_at hl 5 rfl) ?_
      refine lv_iconst (v := 0) hx hb dL_law_1099 (by decide) ?_
      refine x_lld B G hDo1.2 hT3 dL_law_1100 ?_
      refine lv_iload hx hb dL_law_1101 (lv_at hl 0 rfl) ?_
      refine lv_i2l hx hb dL_law_1103 rfl ?_
      refine W.lcmp hx hb dL_law_1104 ?_
      refine x_top (show _ = 0 from l_cmp0 (by rw [hans c_1095])) ?_
      refine lv_if_eq (tgt := 1110) hx hb dL_law_1105 (by decide) (fun c_1105 => ?_) (fun c_1105 => ?_)
      · skip
        refine lv_goto (tgt := 1417) hx hb dL_law_1110 (by decide) ?_
        have hl := lv_sub (l' := [(0, .ref b), (1, .ref (ad1 0)), (2, .ref (adm 17)), (3, .ref (ad1 16)), (4, .int (nI i))]) hl [2, 3, 4, 5, 6] rfl
        exact cont sh1 ad1 V1 Vm' H3 locs ls ⟨B, G, Gm3, hap1, hLI1, hDo1, hl⟩
      · exact False.elim (c_1105 (by decide))
  · exact False.elim (c_1088 hthr)
set_option maxHeartbeats 1000000 in
set_option maxRecDepth 100000 in
theorem law_dropped {p : Program} (l : Launch) {e : Env} {s : State} {m : MethodId} {args : Array Value} {below : List Frame} {meth : Method} {c : Code} {A : Nat → Prop} {D : va_G} {tys : List (ClassId × FieldType)} {cI cJ : ClassId} {mi e0 : Nat} {sa : Nat → Nat} {shm : xS} {adm : Nat → Nat} {LI : Nat → xS → (Nat → Nat) → xV → xV → Prop} {b L : Nat} {xs : Nat → Int32} {Q : State → Prop} (E : xE mi e0 A s s.heap) (F : xF sa A s s.heap) (hN : xN s) (hX : va_X b L xs s s.heap) (hbl : b < s.heap.size) (hbA : ¬ A b) (hL : L ≤ 3072) (Mm : xMm shm adm cI tys) (hAm : ∀ (i : Nat) (mk : (Nat → Int32) → va_E), shm i = some mk → A (adm i)) (hT3 : tys[3]? = some (cJ, .long)) (hDo9 : ∀ t sh ad V Vm, LI t sh ad V Vm → xDo sh ad cI ∧ sh 16 = some (oMk cJ))
    (hP : LawP l D tys mi e0 sa shm adm LI yL_dropped wsL_dropped yX3_dropped wsX3_dropped 2 1) {t i cells slots : Nat} (ht : t < 512) (hi : i + 6 ≤ L) (hcs : cells + 8 ≤ room_1.cells ∧ slots + 180 ≤ room_1.slots) {sh : xS} {ad : Nat → Nat} {V Vm : xV} {H : Heap} {locs : List Loc} {ls : Array Slot} (hS : LSt D tys cI cJ shm adm LI b p s m args meth c A t i sh ad V Vm H locs ls)
    (cont : ∀ (sh : xS) (ad : Nat → Nat) (V Vm : xV) (H : Heap) (locs : List Loc) (ls : Array Slot), LSt D tys cI cJ shm adm LI b p s m args meth c A (t + 1) i sh ad V Vm H locs ls → W p l e room_1 s m args below meth c H locs (cells + 8) (slots + 180) Q (F0 m 1417 ls [])) :
    W p l e room_1 s m args below meth c H locs cells slots Q (F0 m 1113 ls []) := by
  obtain ⟨B, G, Gm, hap, hLI, hDo, hl⟩ := hS
  have hx := B.1.1
  have hb := B.1.2.1
  have hIm := Mm.2.2
  have hcc : room_1.cells = 601024 := rfl
  have hcd : room_1.slots = 7293034 := rfl
  obtain ⟨r, o, Vm', hW, hM, hthr⟩ := hP t sh ad V Vm [xs (i + 1)] rfl ht hLI
  refine lv_aload_n hx hb dL_law_1113 rfl (lv_at hl 1 rfl) ?_
  refine lv_aload_n hx hb dL_law_1114 rfl (lv_at hl 0 rfl) ?_
  refine lv_iload hx hb dL_law_1115 (lv_at hl 4 rfl) ?_
  refine lv_iconst (v := 1) hx hb dL_law_1117 (by decide) ?_
  refine lv_iadd hx hb dL_law_1118 ?_
  refine x_top (show (nI i) + 1 = nI (i + 1) from nI_add i 1) ?_
  refine va_sld hx hb hX hbl hbA G.2 (vp_in_nI (show i + 1 < L by omega) (by omega)) dL_law_1119 ?_
  rw [nI_clamp (show i + 1 < 2 ^ 31 by omega)]
  refine lv_aload_n hx hb dL_law_1120 rfl (lv_at hl 3 rfl) ?_
  refine x_callSw (rest := []) (fun H1 => xW D shm adm Vm H1) B E F hN G (fun H1 hz hk => Gm.keepK hap hk) hW (vx_cwSW 3 B.1.2.2.2.2 gL_law_L_dropped rfl rfl rfl (by decide +kernel) ⟨Nat.le_of_ble_eq_true rfl, Nat.le_of_ble_eq_true rfl⟩) rfl hl.1 rfl (Nat.le_of_ble_eq_true rfl) hcs dL_law_1121 (fun v sh1 ad1 V1 H1 locs hR Gm1 hA1 B G => ?_)
  obtain ⟨rfl, hLI1, e_0, e_16, hans⟩ := hR
  have hap1 := hap.after Gm hA1
  have hDo1 := hDo9 _ _ _ _ _ hLI1
  have hl : lv_has ls 7 [(0, .ref b), (1, .ref (ad1 0)), (2, .ref (adm 17)), (3, .ref (ad1 16)), (4, .int (nI i))] := lv_cast hl (by rw [e_0, e_16])
  refine W.eq (g2 := F0 m 1124 ls [.int r]) rfl ?_
  refine lv_istore (lv' := [(5, .int r), (0, .ref b), (1, .ref (ad1 0)), (2, .ref (adm 17)), (3, .ref (ad1 16)), (4, .int (nI i))]) hx hb dL_law_1124 hl (by decide) rfl (fun ls hl => ?_)
  refine lv_aload_n hx hb dL_law_1126 rfl (lv_at hl 3 rfl) ?_
  refine lv_aload_n hx hb dL_law_1127 rfl (lv_at hl 1 rfl) ?_
  refine lv_iload hx hb dL_law_1128 (lv_at hl 5 rfl) ?_
  refine lv_iconst (v := 1) hx hb dL_law_1130 (by decide) ?_
  refine lv_iadd hx hb dL_law_1131 ?_
  refine x_top (show (nI i) + 1 = nI (i + 1) from nI_add i 1) ?_
  refine va_sld hx hb hX hbl hbA G.2 (vp_in_nI (show i + 1 < L by omega) (by omega)) dL_law_1132 ?_
  rw [nI_clamp (show i + 1 < 2 ^ 31 by omega)]
  refine x_callViK (rest := []) (fun H1 => xW D sh1 ad1 V1 H1) (xB.of B hIm hAm) ⟨Gm1, G.2⟩ (fun H1 hz hk => (show xW D sh1 ad1 V1 _ from G.1).keepK hap1.symm hk) hM (cwV 1 B.1.2.2.2.2 gL_law_X3_dropped rfl rfl rfl (by decide +kernel) ⟨Nat.le_of_ble_eq_true rfl, Nat.le_of_ble_eq_true rfl⟩) (x_recv (xB.of B hIm hAm) ⟨Gm1, G.2⟩ 17 (q := (RX3, TX3, 21)) Mm.2.1.1 rfl) rfl hl.1 rfl (Nat.le_of_ble_eq_true rfl) ⟨by omega, by omega⟩ dL_law_1133 (fun H2 locs Gc G2 => ?_)
  have Gm2 := G2.1
  have G : xG D sh1 ad1 A s.heap V1 H2 locs := ⟨Gc, G2.2⟩
  refine lv_istore (lv' := [(6, .int o), (5, .int r), (0, .ref b), (1, .ref (ad1 0)), (2, .ref (adm 17)), (3, .ref (ad1 16)), (4, .int (nI i))]) hx hb dL_law_1136 hl (by decide) rfl (fun ls hl => ?_)
  refine lv_aload_n hx hb dL_law_1138 rfl (lv_at hl 4 rfl) ?_
  refine x_callViK (rest := []) (fun H1 => xW D sh1 ad1 V1 H1) (xB.of B hIm hAm) ⟨Gm2, G.2⟩ (fun H1 hz hk => (show xW D sh1 ad1 V1 _ from G.1).keepK hap1.symm hk) (c_X3_thrown l Mm Vm') (cwV 0 B.1.2.2.2.2 gL_law_X3_thrown rfl rfl rfl (by decide +kernel) ⟨Nat.le_of_ble_eq_true rfl, Nat.le_of_ble_eq_true rfl⟩) (x_recv (xB.of B hIm hAm) ⟨Gm2, G.2⟩ 17 (q := (RX3, TX3, 21)) Mm.2.1.1 rfl) rfl hl.1 rfl (Nat.le_of_ble_eq_true rfl) ⟨by omega, by omega⟩ dL_law_1139 (fun H3 locs Gc G3 => ?_)
  have Gm3 := G3.1
  have G : xG D sh1 ad1 A s.heap V1 H3 locs := ⟨Gc, G3.2⟩
  refine lv_iload hx hb dL_law_1142 (lv_at hl 1 rfl) ?_
  refine lv_icmp_eq (tgt := 1149) hx hb dL_law_1144 (by decide) (fun c_1144 => ?_) (fun c_1144 => ?_)
  · skip
    refine lv_iload hx hb dL_law_1149 (lv_at hl 1 rfl) ?_
    refine lv_if_ne (tgt := 1166) hx hb dL_law_1151 (by decide) (fun c_1151 => ?_) (fun c_1151 => ?_)
    · skip
      refine lv_goto (tgt := 1417) hx hb dL_law_1166 (by decide) ?_
      have hl := lv_sub (l' := [(0, .ref b), (1, .ref (ad1 0)), (2, .ref (adm 17)), (3, .ref (ad1 16)), (4, .int (nI i))]) hl [2, 3, 4, 5, 6] rfl
      exact cont sh1 ad1 V1 Vm' H3 locs ls ⟨B, G, Gm3, hap1, hLI1, hDo1, hl⟩
    · skip
      refine lv_aload_n hx hb dL_law_1154 rfl (lv_at hl 5 rfl) ?_
      refine lv_iconst (v := 0) hx hb dL_law_1155 (by decide) ?_
      refine x_lld B G hDo1.2 hT3 dL_law_1156 ?_
      refine lv_iload hx hb dL_law_1157 (lv_at hl 0 rfl) ?_
      refine lv_i2l hx hb dL_law_1159 rfl ?_
      refine W.lcmp hx hb dL_law_1160 ?_
      refine x_top (show _ = 0 from l_cmp0 (by rw [hans c_1151])) ?_
      refine lv_if_eq (tgt := 1166) hx hb dL_law_1161 (by decide) (fun c_1161 => ?_) (fun c_1161 => ?_)
      · skip
        refine lv_goto (tgt := 1417) hx hb dL_law_1166 (by decide) ?_
        have hl := lv_sub (l' := [(0, .ref b), (1, .ref (ad1 0)), (2, .ref (adm 17)), (3, .ref (ad1 16)), (4, .int (nI i))]) hl [2, 3, 4, 5, 6] rfl
        exact cont sh1 ad1 V1 Vm' H3 locs ls ⟨B, G, Gm3, hap1, hLI1, hDo1, hl⟩
      · exact False.elim (c_1161 (by decide))
  · exact False.elim (c_1144 hthr)
set_option maxHeartbeats 1000000 in
set_option maxRecDepth 100000 in
theorem law_refused {p : Program} (l : Launch) {e : Env} {s : State} {m : MethodId} {args : Array Value} {below : List Frame} {meth : Method} {c : Code} {A : Nat → Prop} {D : va_G} {tys : List (ClassId × FieldType)} {cI cJ : ClassId} {mi e0 : Nat} {sa : Nat → Nat} {shm : xS} {adm : Nat → Nat} {LI : Nat → xS → (Nat → Nat) → xV → xV → Prop} {b L : Nat} {xs : Nat → Int32} {Q : State → Prop} (E : xE mi e0 A s s.heap) (F : xF sa A s s.heap) (hN : xN s) (hX : va_X b L xs s s.heap) (hbl : b < s.heap.size) (hbA : ¬ A b) (hL : L ≤ 3072) (Mm : xMm shm adm cI tys) (hAm : ∀ (i : Nat) (mk : (Nat → Int32) → va_E), shm i = some mk → A (adm i)) (hT3 : tys[3]? = some (cJ, .long)) (hDo9 : ∀ t sh ad V Vm, LI t sh ad V Vm → xDo sh ad cI ∧ sh 16 = some (oMk cJ))
    (hP : LawP l D tys mi e0 sa shm adm LI yL_refused wsL_refused yX3_refused wsX3_refused 2 1) {t i cells slots : Nat} (ht : t < 512) (hi : i + 6 ≤ L) (hcs : cells + 8 ≤ room_1.cells ∧ slots + 180 ≤ room_1.slots) {sh : xS} {ad : Nat → Nat} {V Vm : xV} {H : Heap} {locs : List Loc} {ls : Array Slot} (hS : LSt D tys cI cJ shm adm LI b p s m args meth c A t i sh ad V Vm H locs ls)
    (cont : ∀ (sh : xS) (ad : Nat → Nat) (V Vm : xV) (H : Heap) (locs : List Loc) (ls : Array Slot), LSt D tys cI cJ shm adm LI b p s m args meth c A (t + 1) i sh ad V Vm H locs ls → W p l e room_1 s m args below meth c H locs (cells + 8) (slots + 180) Q (F0 m 1417 ls [])) :
    W p l e room_1 s m args below meth c H locs cells slots Q (F0 m 1169 ls []) := by
  obtain ⟨B, G, Gm, hap, hLI, hDo, hl⟩ := hS
  have hx := B.1.1
  have hb := B.1.2.1
  have hIm := Mm.2.2
  have hcc : room_1.cells = 601024 := rfl
  have hcd : room_1.slots = 7293034 := rfl
  obtain ⟨r, o, Vm', hW, hM, hthr⟩ := hP t sh ad V Vm [xs (i + 1)] rfl ht hLI
  refine lv_aload_n hx hb dL_law_1169 rfl (lv_at hl 1 rfl) ?_
  refine lv_aload_n hx hb dL_law_1170 rfl (lv_at hl 0 rfl) ?_
  refine lv_iload hx hb dL_law_1171 (lv_at hl 4 rfl) ?_
  refine lv_iconst (v := 1) hx hb dL_law_1173 (by decide) ?_
  refine lv_iadd hx hb dL_law_1174 ?_
  refine x_top (show (nI i) + 1 = nI (i + 1) from nI_add i 1) ?_
  refine va_sld hx hb hX hbl hbA G.2 (vp_in_nI (show i + 1 < L by omega) (by omega)) dL_law_1175 ?_
  rw [nI_clamp (show i + 1 < 2 ^ 31 by omega)]
  refine lv_aload_n hx hb dL_law_1176 rfl (lv_at hl 3 rfl) ?_
  refine x_callSw (rest := []) (fun H1 => xW D shm adm Vm H1) B E F hN G (fun H1 hz hk => Gm.keepK hap hk) hW (vx_cwSW 3 B.1.2.2.2.2 gL_law_L_refused rfl rfl rfl (by decide +kernel) ⟨Nat.le_of_ble_eq_true rfl, Nat.le_of_ble_eq_true rfl⟩) rfl hl.1 rfl (Nat.le_of_ble_eq_true rfl) hcs dL_law_1177 (fun v sh1 ad1 V1 H1 locs hR Gm1 hA1 B G => ?_)
  obtain ⟨rfl, hLI1, e_0, e_16, hans⟩ := hR
  have hap1 := hap.after Gm hA1
  have hDo1 := hDo9 _ _ _ _ _ hLI1
  have hl : lv_has ls 7 [(0, .ref b), (1, .ref (ad1 0)), (2, .ref (adm 17)), (3, .ref (ad1 16)), (4, .int (nI i))] := lv_cast hl (by rw [e_0, e_16])
  refine W.eq (g2 := F0 m 1180 ls [.int r]) rfl ?_
  refine lv_istore (lv' := [(5, .int r), (0, .ref b), (1, .ref (ad1 0)), (2, .ref (adm 17)), (3, .ref (ad1 16)), (4, .int (nI i))]) hx hb dL_law_1180 hl (by decide) rfl (fun ls hl => ?_)
  refine lv_aload_n hx hb dL_law_1182 rfl (lv_at hl 3 rfl) ?_
  refine lv_aload_n hx hb dL_law_1183 rfl (lv_at hl 1 rfl) ?_
  refine lv_iload hx hb dL_law_1184 (lv_at hl 5 rfl) ?_
  refine lv_iconst (v := 1) hx hb dL_law_1186 (by decide) ?_
  refine lv_iadd hx hb dL_law_1187 ?_
  refine x_top (show (nI i) + 1 = nI (i + 1) from nI_add i 1) ?_
  refine va_sld hx hb hX hbl hbA G.2 (vp_in_nI (show i + 1 < L by omega) (by omega)) dL_law_1188 ?_
  rw [nI_clamp (show i + 1 < 2 ^ 31 by omega)]
  refine x_callViK (rest := []) (fun H1 => xW D sh1 ad1 V1 H1) (xB.of B hIm hAm) ⟨Gm1, G.2⟩ (fun H1 hz hk => (show xW D sh1 ad1 V1 _ from G.1).keepK hap1.symm hk) hM (cwV 1 B.1.2.2.2.2 gL_law_X3_refused rfl rfl rfl (by decide +kernel) ⟨Nat.le_of_ble_eq_true rfl, Nat.le_of_ble_eq_true rfl⟩) (x_recv (xB.of B hIm hAm) ⟨Gm1, G.2⟩ 17 (q := (RX3, TX3, 21)) Mm.2.1.1 rfl) rfl hl.1 rfl (Nat.le_of_ble_eq_true rfl) ⟨by omega, by omega⟩ dL_law_1189 (fun H2 locs Gc G2 => ?_)
  have Gm2 := G2.1
  have G : xG D sh1 ad1 A s.heap V1 H2 locs := ⟨Gc, G2.2⟩
  refine lv_istore (lv' := [(6, .int o), (5, .int r), (0, .ref b), (1, .ref (ad1 0)), (2, .ref (adm 17)), (3, .ref (ad1 16)), (4, .int (nI i))]) hx hb dL_law_1192 hl (by decide) rfl (fun ls hl => ?_)
  refine lv_aload_n hx hb dL_law_1194 rfl (lv_at hl 4 rfl) ?_
  refine x_callViK (rest := []) (fun H1 => xW D sh1 ad1 V1 H1) (xB.of B hIm hAm) ⟨Gm2, G.2⟩ (fun H1 hz hk => (show xW D sh1 ad1 V1 _ from G.1).keepK hap1.symm hk) (c_X3_thrown l Mm Vm') (cwV 0 B.1.2.2.2.2 gL_law_X3_thrown rfl rfl rfl (by decide +kernel) ⟨Nat.le_of_ble_eq_true rfl, Nat.le_of_ble_eq_true rfl⟩) (x_recv (xB.of B hIm hAm) ⟨Gm2, G.2⟩ 17 (q := (RX3, TX3, 21)) Mm.2.1.1 rfl) rfl hl.1 rfl (Nat.le_of_ble_eq_true rfl) ⟨by omega, by omega⟩ dL_law_1195 (fun H3 locs Gc G3 => ?_)
  have Gm3 := G3.1
  have G : xG D sh1 ad1 A s.heap V1 H3 locs := ⟨Gc, G3.2⟩
  refine lv_iload hx hb dL_law_1198 (lv_at hl 1 rfl) ?_
  refine lv_icmp_eq (tgt := 1205) hx hb dL_law_1200 (by decide) (fun c_1200 => ?_) (fun c_1200 => ?_)
  · skip
    refine lv_iload hx hb dL_law_1205 (lv_at hl 1 rfl) ?_
    refine lv_if_ne (tgt := 1222) hx hb dL_law_1207 (by decide) (fun c_1207 => ?_) (fun c_1207 => ?_)
    · skip
      refine lv_goto (tgt := 1417) hx hb dL_law_1222 (by decide) ?_
      have hl := lv_sub (l' := [(0, .ref b), (1, .ref (ad1 0)), (2, .ref (adm 17)), (3, .ref (ad1 16)), (4, .int (nI i))]) hl [2, 3, 4, 5, 6] rfl
      exact cont sh1 ad1 V1 Vm' H3 locs ls ⟨B, G, Gm3, hap1, hLI1, hDo1, hl⟩
    · skip
      refine lv_aload_n hx hb dL_law_1210 rfl (lv_at hl 5 rfl) ?_
      refine lv_iconst (v := 0) hx hb dL_law_1211 (by decide) ?_
      refine x_lld B G hDo1.2 hT3 dL_law_1212 ?_
      refine lv_iload hx hb dL_law_1213 (lv_at hl 0 rfl) ?_
      refine lv_i2l hx hb dL_law_1215 rfl ?_
      refine W.lcmp hx hb dL_law_1216 ?_
      refine x_top (show _ = 0 from l_cmp0 (by rw [hans c_1207])) ?_
      refine lv_if_eq (tgt := 1222) hx hb dL_law_1217 (by decide) (fun c_1217 => ?_) (fun c_1217 => ?_)
      · skip
        refine lv_goto (tgt := 1417) hx hb dL_law_1222 (by decide) ?_
        have hl := lv_sub (l' := [(0, .ref b), (1, .ref (ad1 0)), (2, .ref (adm 17)), (3, .ref (ad1 16)), (4, .int (nI i))]) hl [2, 3, 4, 5, 6] rfl
        exact cont sh1 ad1 V1 Vm' H3 locs ls ⟨B, G, Gm3, hap1, hLI1, hDo1, hl⟩
      · exact False.elim (c_1217 (by decide))
  · exact False.elim (c_1200 hthr)
set_option maxHeartbeats 1000000 in
set_option maxRecDepth 100000 in
theorem law_arrival {p : Program} (l : Launch) {e : Env} {s : State} {m : MethodId} {args : Array Value} {below : List Frame} {meth : Method} {c : Code} {A : Nat → Prop} {D : va_G} {tys : List (ClassId × FieldType)} {cI cJ : ClassId} {mi e0 : Nat} {sa : Nat → Nat} {shm : xS} {adm : Nat → Nat} {LI : Nat → xS → (Nat → Nat) → xV → xV → Prop} {b L : Nat} {xs : Nat → Int32} {Q : State → Prop} (E : xE mi e0 A s s.heap) (F : xF sa A s s.heap) (hN : xN s) (hX : va_X b L xs s s.heap) (hbl : b < s.heap.size) (hbA : ¬ A b) (hL : L ≤ 3072) (Mm : xMm shm adm cI tys) (hAm : ∀ (i : Nat) (mk : (Nat → Int32) → va_E), shm i = some mk → A (adm i)) (hT3 : tys[3]? = some (cJ, .long)) (hDo9 : ∀ t sh ad V Vm, LI t sh ad V Vm → xDo sh ad cI ∧ sh 16 = some (oMk cJ))
    (hP : LawP l D tys mi e0 sa shm adm LI yL_arrival wsL_arrival yX3_arrival wsX3_arrival 2 2) {t i cells slots : Nat} (ht : t < 512) (hi : i + 6 ≤ L) (hcs : cells + 8 ≤ room_1.cells ∧ slots + 180 ≤ room_1.slots) {sh : xS} {ad : Nat → Nat} {V Vm : xV} {H : Heap} {locs : List Loc} {ls : Array Slot} (hS : LSt D tys cI cJ shm adm LI b p s m args meth c A t i sh ad V Vm H locs ls)
    (cont : ∀ (sh : xS) (ad : Nat → Nat) (V Vm : xV) (H : Heap) (locs : List Loc) (ls : Array Slot), LSt D tys cI cJ shm adm LI b p s m args meth c A (t + 1) i sh ad V Vm H locs ls → W p l e room_1 s m args below meth c H locs (cells + 8) (slots + 180) Q (F0 m 1417 ls [])) :
    W p l e room_1 s m args below meth c H locs cells slots Q (F0 m 1225 ls []) := by
  obtain ⟨B, G, Gm, hap, hLI, hDo, hl⟩ := hS
  have hx := B.1.1
  have hb := B.1.2.1
  have hIm := Mm.2.2
  have hcc : room_1.cells = 601024 := rfl
  have hcd : room_1.slots = 7293034 := rfl
  obtain ⟨r, o, Vm', hW, hM, hthr⟩ := hP t sh ad V Vm [xs (i + 1), xs (i + 2)] rfl ht hLI
  refine lv_aload_n hx hb dL_law_1225 rfl (lv_at hl 1 rfl) ?_
  refine lv_aload_n hx hb dL_law_1226 rfl (lv_at hl 0 rfl) ?_
  refine lv_iload hx hb dL_law_1227 (lv_at hl 4 rfl) ?_
  refine lv_iconst (v := 1) hx hb dL_law_1229 (by decide) ?_
  refine lv_iadd hx hb dL_law_1230 ?_
  refine x_top (show (nI i) + 1 = nI (i + 1) from nI_add i 1) ?_
  refine va_sld hx hb hX hbl hbA G.2 (vp_in_nI (show i + 1 < L by omega) (by omega)) dL_law_1231 ?_
  rw [nI_clamp (show i + 1 < 2 ^ 31 by omega)]
  refine lv_aload_n hx hb dL_law_1232 rfl (lv_at hl 0 rfl) ?_
  refine lv_iload hx hb dL_law_1233 (lv_at hl 4 rfl) ?_
  refine lv_iconst (v := 2) hx hb dL_law_1235 (by decide) ?_
  refine lv_iadd hx hb dL_law_1236 ?_
  refine x_top (show (nI i) + 2 = nI (i + 2) from nI_add i 2) ?_
  refine va_sld hx hb hX hbl hbA G.2 (vp_in_nI (show i + 2 < L by omega) (by omega)) dL_law_1237 ?_
  rw [nI_clamp (show i + 2 < 2 ^ 31 by omega)]
  refine lv_aload_n hx hb dL_law_1238 rfl (lv_at hl 3 rfl) ?_
  refine x_callSw (rest := []) (fun H1 => xW D shm adm Vm H1) B E F hN G (fun H1 hz hk => Gm.keepK hap hk) hW (vx_cwSW 4 B.1.2.2.2.2 gL_law_L_arrival rfl rfl rfl (by decide +kernel) ⟨Nat.le_of_ble_eq_true rfl, Nat.le_of_ble_eq_true rfl⟩) rfl hl.1 rfl (Nat.le_of_ble_eq_true rfl) hcs dL_law_1239 (fun v sh1 ad1 V1 H1 locs hR Gm1 hA1 B G => ?_)
  obtain ⟨rfl, hLI1, e_0, e_16, hans⟩ := hR
  have hap1 := hap.after Gm hA1
  have hDo1 := hDo9 _ _ _ _ _ hLI1
  have hl : lv_has ls 7 [(0, .ref b), (1, .ref (ad1 0)), (2, .ref (adm 17)), (3, .ref (ad1 16)), (4, .int (nI i))] := lv_cast hl (by rw [e_0, e_16])
  refine W.eq (g2 := F0 m 1242 ls [.int r]) rfl ?_
  refine lv_istore (lv' := [(5, .int r), (0, .ref b), (1, .ref (ad1 0)), (2, .ref (adm 17)), (3, .ref (ad1 16)), (4, .int (nI i))]) hx hb dL_law_1242 hl (by decide) rfl (fun ls hl => ?_)
  refine lv_aload_n hx hb dL_law_1244 rfl (lv_at hl 3 rfl) ?_
  refine lv_aload_n hx hb dL_law_1245 rfl (lv_at hl 1 rfl) ?_
  refine lv_iload hx hb dL_law_1246 (lv_at hl 5 rfl) ?_
  refine lv_iconst (v := 1) hx hb dL_law_1248 (by decide) ?_
  refine lv_iadd hx hb dL_law_1249 ?_
  refine x_top (show (nI i) + 1 = nI (i + 1) from nI_add i 1) ?_
  refine va_sld hx hb hX hbl hbA G.2 (vp_in_nI (show i + 1 < L by omega) (by omega)) dL_law_1250 ?_
  rw [nI_clamp (show i + 1 < 2 ^ 31 by omega)]
  refine lv_aload_n hx hb dL_law_1251 rfl (lv_at hl 1 rfl) ?_
  refine lv_iload hx hb dL_law_1252 (lv_at hl 5 rfl) ?_
  refine lv_iconst (v := 2) hx hb dL_law_1254 (by decide) ?_
  refine lv_iadd hx hb dL_law_1255 ?_
  refine x_top (show (nI i) + 2 = nI (i + 2) from nI_add i 2) ?_
  refine va_sld hx hb hX hbl hbA G.2 (vp_in_nI (show i + 2 < L by omega) (by omega)) dL_law_1256 ?_
  rw [nI_clamp (show i + 2 < 2 ^ 31 by omega)]
  refine x_callViK (rest := []) (fun H1 => xW D sh1 ad1 V1 H1) (xB.of B hIm hAm) ⟨Gm1, G.2⟩ (fun H1 hz hk => (show xW D sh1 ad1 V1 _ from G.1).keepK hap1.symm hk) hM (cwV 2 B.1.2.2.2.2 gL_law_X3_arrival rfl rfl rfl (by decide +kernel) ⟨Nat.le_of_ble_eq_true rfl, Nat.le_of_ble_eq_true rfl⟩) (x_recv (xB.of B hIm hAm) ⟨Gm1, G.2⟩ 17 (q := (RX3, TX3, 21)) Mm.2.1.1 rfl) rfl hl.1 rfl (Nat.le_of_ble_eq_true rfl) ⟨by omega, by omega⟩ dL_law_1257 (fun H2 locs Gc G2 => ?_)
  have Gm2 := G2.1
  have G : xG D sh1 ad1 A s.heap V1 H2 locs := ⟨Gc, G2.2⟩
  refine lv_istore (lv' := [(6, .int o), (5, .int r), (0, .ref b), (1, .ref (ad1 0)), (2, .ref (adm 17)), (3, .ref (ad1 16)), (4, .int (nI i))]) hx hb dL_law_1260 hl (by decide) rfl (fun ls hl => ?_)
  refine lv_aload_n hx hb dL_law_1262 rfl (lv_at hl 4 rfl) ?_
  refine x_callViK (rest := []) (fun H1 => xW D sh1 ad1 V1 H1) (xB.of B hIm hAm) ⟨Gm2, G.2⟩ (fun H1 hz hk => (show xW D sh1 ad1 V1 _ from G.1).keepK hap1.symm hk) (c_X3_thrown l Mm Vm') (cwV 0 B.1.2.2.2.2 gL_law_X3_thrown rfl rfl rfl (by decide +kernel) ⟨Nat.le_of_ble_eq_true rfl, Nat.le_of_ble_eq_true rfl⟩) (x_recv (xB.of B hIm hAm) ⟨Gm2, G.2⟩ 17 (q := (RX3, TX3, 21)) Mm.2.1.1 rfl) rfl hl.1 rfl (Nat.le_of_ble_eq_true rfl) ⟨by omega, by omega⟩ dL_law_1263 (fun H3 locs Gc G3 => ?_)
  have Gm3 := G3.1
  have G : xG D sh1 ad1 A s.heap V1 H3 locs := ⟨Gc, G3.2⟩
  refine lv_iload hx hb dL_law_1266 (lv_at hl 1 rfl) ?_
  refine lv_icmp_eq (tgt := 1273) hx hb dL_law_1268 (by decide) (fun c_1268 => ?_) (fun c_1268 => ?_)
  · skip
    refine lv_iload hx hb dL_law_1273 (lv_at hl 1 rfl) ?_
    refine lv_if_ne (tgt := 1290) hx hb dL_law_1275 (by decide) (fun c_1275 => ?_) (fun c_1275 => ?_)
    · skip
      refine lv_goto (tgt := 1417) hx hb dL_law_1290 (by decide) ?_
      have hl := lv_sub (l' := [(0, .ref b), (1, .ref (ad1 0)), (2, .ref (adm 17)), (3, .ref (ad1 16)), (4, .int (nI i))]) hl [2, 3, 4, 5, 6] rfl
      exact cont sh1 ad1 V1 Vm' H3 locs ls ⟨B, G, Gm3, hap1, hLI1, hDo1, hl⟩
    · skip
      refine lv_aload_n hx hb dL_law_1278 rfl (lv_at hl 5 rfl) ?_
      refine lv_iconst (v := 0) hx hb dL_law_1279 (by decide) ?_
      refine x_lld B G hDo1.2 hT3 dL_law_1280 ?_
      refine lv_iload hx hb dL_law_1281 (lv_at hl 0 rfl) ?_
      refine lv_i2l hx hb dL_law_1283 rfl ?_
      refine W.lcmp hx hb dL_law_1284 ?_
      refine x_top (show _ = 0 from l_cmp0 (by rw [hans c_1275])) ?_
      refine lv_if_eq (tgt := 1290) hx hb dL_law_1285 (by decide) (fun c_1285 => ?_) (fun c_1285 => ?_)
      · skip
        refine lv_goto (tgt := 1417) hx hb dL_law_1290 (by decide) ?_
        have hl := lv_sub (l' := [(0, .ref b), (1, .ref (ad1 0)), (2, .ref (adm 17)), (3, .ref (ad1 16)), (4, .int (nI i))]) hl [2, 3, 4, 5, 6] rfl
        exact cont sh1 ad1 V1 Vm' H3 locs ls ⟨B, G, Gm3, hap1, hLI1, hDo1, hl⟩
      · exact False.elim (c_1285 (by decide))
  · exact False.elim (c_1268 hthr)
set_option maxHeartbeats 1000000 in
set_option maxRecDepth 100000 in
theorem law_arrivalByRounds {p : Program} (l : Launch) {e : Env} {s : State} {m : MethodId} {args : Array Value} {below : List Frame} {meth : Method} {c : Code} {A : Nat → Prop} {D : va_G} {tys : List (ClassId × FieldType)} {cI cJ : ClassId} {mi e0 : Nat} {sa : Nat → Nat} {shm : xS} {adm : Nat → Nat} {LI : Nat → xS → (Nat → Nat) → xV → xV → Prop} {b L : Nat} {xs : Nat → Int32} {Q : State → Prop} (E : xE mi e0 A s s.heap) (F : xF sa A s s.heap) (hN : xN s) (hX : va_X b L xs s s.heap) (hbl : b < s.heap.size) (hbA : ¬ A b) (hL : L ≤ 3072) (Mm : xMm shm adm cI tys) (hAm : ∀ (i : Nat) (mk : (Nat → Int32) → va_E), shm i = some mk → A (adm i)) (hT3 : tys[3]? = some (cJ, .long)) (hDo9 : ∀ t sh ad V Vm, LI t sh ad V Vm → xDo sh ad cI ∧ sh 16 = some (oMk cJ))
    (hP : LawP l D tys mi e0 sa shm adm LI yL_arrivalByRounds wsL_arrivalByRounds yX3_arrivalByRounds wsX3_arrivalByRounds 2 2) {t i cells slots : Nat} (ht : t < 512) (hi : i + 6 ≤ L) (hcs : cells + 8 ≤ room_1.cells ∧ slots + 180 ≤ room_1.slots) {sh : xS} {ad : Nat → Nat} {V Vm : xV} {H : Heap} {locs : List Loc} {ls : Array Slot} (hS : LSt D tys cI cJ shm adm LI b p s m args meth c A t i sh ad V Vm H locs ls)
    (cont : ∀ (sh : xS) (ad : Nat → Nat) (V Vm : xV) (H : Heap) (locs : List Loc) (ls : Array Slot), LSt D tys cI cJ shm adm LI b p s m args meth c A (t + 1) i sh ad V Vm H locs ls → W p l e room_1 s m args below meth c H locs (cells + 8) (slots + 180) Q (F0 m 1417 ls [])) :
    W p l e room_1 s m args below meth c H locs cells slots Q (F0 m 1293 ls []) := by
  obtain ⟨B, G, Gm, hap, hLI, hDo, hl⟩ := hS
  have hx := B.1.1
  have hb := B.1.2.1
  have hIm := Mm.2.2
  have hcc : room_1.cells = 601024 := rfl
  have hcd : room_1.slots = 7293034 := rfl
  obtain ⟨r, o, Vm', hW, hM, hthr⟩ := hP t sh ad V Vm [xs (i + 1), xs (i + 2)] rfl ht hLI
  refine lv_aload_n hx hb dL_law_1293 rfl (lv_at hl 1 rfl) ?_
  refine lv_aload_n hx hb dL_law_1294 rfl (lv_at hl 0 rfl) ?_
  refine lv_iload hx hb dL_law_1295 (lv_at hl 4 rfl) ?_
  refine lv_iconst (v := 1) hx hb dL_law_1297 (by decide) ?_
  refine lv_iadd hx hb dL_law_1298 ?_
  refine x_top (show (nI i) + 1 = nI (i + 1) from nI_add i 1) ?_
  refine va_sld hx hb hX hbl hbA G.2 (vp_in_nI (show i + 1 < L by omega) (by omega)) dL_law_1299 ?_
  rw [nI_clamp (show i + 1 < 2 ^ 31 by omega)]
  refine lv_aload_n hx hb dL_law_1300 rfl (lv_at hl 0 rfl) ?_
  refine lv_iload hx hb dL_law_1301 (lv_at hl 4 rfl) ?_
  refine lv_iconst (v := 2) hx hb dL_law_1303 (by decide) ?_
  refine lv_iadd hx hb dL_law_1304 ?_
  refine x_top (show (nI i) + 2 = nI (i + 2) from nI_add i 2) ?_
  refine va_sld hx hb hX hbl hbA G.2 (vp_in_nI (show i + 2 < L by omega) (by omega)) dL_law_1305 ?_
  rw [nI_clamp (show i + 2 < 2 ^ 31 by omega)]
  refine lv_aload_n hx hb dL_law_1306 rfl (lv_at hl 3 rfl) ?_
  refine x_callSw (rest := []) (fun H1 => xW D shm adm Vm H1) B E F hN G (fun H1 hz hk => Gm.keepK hap hk) hW (vx_cwSW 4 B.1.2.2.2.2 gL_law_L_arrivalByRounds rfl rfl rfl (by decide +kernel) ⟨Nat.le_of_ble_eq_true rfl, Nat.le_of_ble_eq_true rfl⟩) rfl hl.1 rfl (Nat.le_of_ble_eq_true rfl) hcs dL_law_1307 (fun v sh1 ad1 V1 H1 locs hR Gm1 hA1 B G => ?_)
  obtain ⟨rfl, hLI1, e_0, e_16, hans⟩ := hR
  have hap1 := hap.after Gm hA1
  have hDo1 := hDo9 _ _ _ _ _ hLI1
  have hl : lv_has ls 7 [(0, .ref b), (1, .ref (ad1 0)), (2, .ref (adm 17)), (3, .ref (ad1 16)), (4, .int (nI i))] := lv_cast hl (by rw [e_0, e_16])
  refine W.eq (g2 := F0 m 1310 ls [.int r]) rfl ?_
  refine lv_istore (lv' := [(5, .int r), (0, .ref b), (1, .ref (ad1 0)), (2, .ref (adm 17)), (3, .ref (ad1 16)), (4, .int (nI i))]) hx hb dL_law_1310 hl (by decide) rfl (fun ls hl => ?_)
  refine lv_aload_n hx hb dL_law_1312 rfl (lv_at hl 3 rfl) ?_
  refine lv_aload_n hx hb dL_law_1313 rfl (lv_at hl 1 rfl) ?_
  refine lv_iload hx hb dL_law_1314 (lv_at hl 5 rfl) ?_
  refine lv_iconst (v := 1) hx hb dL_law_1316 (by decide) ?_
  refine lv_iadd hx hb dL_law_1317 ?_
  refine x_top (show (nI i) + 1 = nI (i + 1) from nI_add i 1) ?_
  refine va_sld hx hb hX hbl hbA G.2 (vp_in_nI (show i + 1 < L by omega) (by omega)) dL_law_1318 ?_
  rw [nI_clamp (show i + 1 < 2 ^ 31 by omega)]
  refine lv_aload_n hx hb dL_law_1319 rfl (lv_at hl 1 rfl) ?_
  refine lv_iload hx hb dL_law_1320 (lv_at hl 5 rfl) ?_
  refine lv_iconst (v := 2) hx hb dL_law_1322 (by decide) ?_
  refine lv_iadd hx hb dL_law_1323 ?_
  refine x_top (show (nI i) + 2 = nI (i + 2) from nI_add i 2) ?_
  refine va_sld hx hb hX hbl hbA G.2 (vp_in_nI (show i + 2 < L by omega) (by omega)) dL_law_1324 ?_
  rw [nI_clamp (show i + 2 < 2 ^ 31 by omega)]
  refine x_callViK (rest := []) (fun H1 => xW D sh1 ad1 V1 H1) (xB.of B hIm hAm) ⟨Gm1, G.2⟩ (fun H1 hz hk => (show xW D sh1 ad1 V1 _ from G.1).keepK hap1.symm hk) hM (cwV 2 B.1.2.2.2.2 gL_law_X3_arrivalByRounds rfl rfl rfl (by decide +kernel) ⟨Nat.le_of_ble_eq_true rfl, Nat.le_of_ble_eq_true rfl⟩) (x_recv (xB.of B hIm hAm) ⟨Gm1, G.2⟩ 17 (q := (RX3, TX3, 21)) Mm.2.1.1 rfl) rfl hl.1 rfl (Nat.le_of_ble_eq_true rfl) ⟨by omega, by omega⟩ dL_law_1325 (fun H2 locs Gc G2 => ?_)
  have Gm2 := G2.1
  have G : xG D sh1 ad1 A s.heap V1 H2 locs := ⟨Gc, G2.2⟩
  refine lv_istore (lv' := [(6, .int o), (5, .int r), (0, .ref b), (1, .ref (ad1 0)), (2, .ref (adm 17)), (3, .ref (ad1 16)), (4, .int (nI i))]) hx hb dL_law_1328 hl (by decide) rfl (fun ls hl => ?_)
  refine lv_aload_n hx hb dL_law_1330 rfl (lv_at hl 4 rfl) ?_
  refine x_callViK (rest := []) (fun H1 => xW D sh1 ad1 V1 H1) (xB.of B hIm hAm) ⟨Gm2, G.2⟩ (fun H1 hz hk => (show xW D sh1 ad1 V1 _ from G.1).keepK hap1.symm hk) (c_X3_thrown l Mm Vm') (cwV 0 B.1.2.2.2.2 gL_law_X3_thrown rfl rfl rfl (by decide +kernel) ⟨Nat.le_of_ble_eq_true rfl, Nat.le_of_ble_eq_true rfl⟩) (x_recv (xB.of B hIm hAm) ⟨Gm2, G.2⟩ 17 (q := (RX3, TX3, 21)) Mm.2.1.1 rfl) rfl hl.1 rfl (Nat.le_of_ble_eq_true rfl) ⟨by omega, by omega⟩ dL_law_1331 (fun H3 locs Gc G3 => ?_)
  have Gm3 := G3.1
  have G : xG D sh1 ad1 A s.heap V1 H3 locs := ⟨Gc, G3.2⟩
  refine lv_iload hx hb dL_law_1334 (lv_at hl 1 rfl) ?_
  refine lv_icmp_eq (tgt := 1341) hx hb dL_law_1336 (by decide) (fun c_1336 => ?_) (fun c_1336 => ?_)
  · skip
    refine lv_iload hx hb dL_law_1341 (lv_at hl 1 rfl) ?_
    refine lv_if_ne (tgt := 1358) hx hb dL_law_1343 (by decide) (fun c_1343 => ?_) (fun c_1343 => ?_)
    · skip
      refine lv_goto (tgt := 1417) hx hb dL_law_1358 (by decide) ?_
      have hl := lv_sub (l' := [(0, .ref b), (1, .ref (ad1 0)), (2, .ref (adm 17)), (3, .ref (ad1 16)), (4, .int (nI i))]) hl [2, 3, 4, 5, 6] rfl
      exact cont sh1 ad1 V1 Vm' H3 locs ls ⟨B, G, Gm3, hap1, hLI1, hDo1, hl⟩
    · skip
      refine lv_aload_n hx hb dL_law_1346 rfl (lv_at hl 5 rfl) ?_
      refine lv_iconst (v := 0) hx hb dL_law_1347 (by decide) ?_
      refine x_lld B G hDo1.2 hT3 dL_law_1348 ?_
      refine lv_iload hx hb dL_law_1349 (lv_at hl 0 rfl) ?_
      refine lv_i2l hx hb dL_law_1351 rfl ?_
      refine W.lcmp hx hb dL_law_1352 ?_
      refine x_top (show _ = 0 from l_cmp0 (by rw [hans c_1343])) ?_
      refine lv_if_eq (tgt := 1358) hx hb dL_law_1353 (by decide) (fun c_1353 => ?_) (fun c_1353 => ?_)
      · skip
        refine lv_goto (tgt := 1417) hx hb dL_law_1358 (by decide) ?_
        have hl := lv_sub (l' := [(0, .ref b), (1, .ref (ad1 0)), (2, .ref (adm 17)), (3, .ref (ad1 16)), (4, .int (nI i))]) hl [2, 3, 4, 5, 6] rfl
        exact cont sh1 ad1 V1 Vm' H3 locs ls ⟨B, G, Gm3, hap1, hLI1, hDo1, hl⟩
      · exact False.elim (c_1353 (by decide))
  · exact False.elim (c_1336 hthr)
set_option maxHeartbeats 1000000 in
set_option maxRecDepth 100000 in
theorem law_promised {p : Program} (l : Launch) {e : Env} {s : State} {m : MethodId} {args : Array Value} {below : List Frame} {meth : Method} {c : Code} {A : Nat → Prop} {D : va_G} {tys : List (ClassId × FieldType)} {cI cJ : ClassId} {mi e0 : Nat} {sa : Nat → Nat} {shm : xS} {adm : Nat → Nat} {LI : Nat → xS → (Nat → Nat) → xV → xV → Prop} {b L : Nat} {xs : Nat → Int32} {Q : State → Prop} (E : xE mi e0 A s s.heap) (F : xF sa A s s.heap) (hN : xN s) (hX : va_X b L xs s s.heap) (hbl : b < s.heap.size) (hbA : ¬ A b) (hL : L ≤ 3072) (Mm : xMm shm adm cI tys) (hAm : ∀ (i : Nat) (mk : (Nat → Int32) → va_E), shm i = some mk → A (adm i)) (hT3 : tys[3]? = some (cJ, .long)) (hDo9 : ∀ t sh ad V Vm, LI t sh ad V Vm → xDo sh ad cI ∧ sh 16 = some (oMk cJ))
    (hP : LawP l D tys mi e0 sa shm adm LI yL_promised wsL_promised yX3_promised wsX3_promised 2 1) {t i cells slots : Nat} (ht : t < 512) (hi : i + 6 ≤ L) (hcs : cells + 8 ≤ room_1.cells ∧ slots + 180 ≤ room_1.slots) {sh : xS} {ad : Nat → Nat} {V Vm : xV} {H : Heap} {locs : List Loc} {ls : Array Slot} (hS : LSt D tys cI cJ shm adm LI b p s m args meth c A t i sh ad V Vm H locs ls)
    (cont : ∀ (sh : xS) (ad : Nat → Nat) (V Vm : xV) (H : Heap) (locs : List Loc) (ls : Array Slot), LSt D tys cI cJ shm adm LI b p s m args meth c A (t + 1) i sh ad V Vm H locs ls → W p l e room_1 s m args below meth c H locs (cells + 8) (slots + 180) Q (F0 m 1417 ls [])) :
    W p l e room_1 s m args below meth c H locs cells slots Q (F0 m 1361 ls []) := by
  obtain ⟨B, G, Gm, hap, hLI, hDo, hl⟩ := hS
  have hx := B.1.1
  have hb := B.1.2.1
  have hIm := Mm.2.2
  have hcc : room_1.cells = 601024 := rfl
  have hcd : room_1.slots = 7293034 := rfl
  obtain ⟨r, o, Vm', hW, hM, hthr⟩ := hP t sh ad V Vm [xs (i + 1)] rfl ht hLI
  refine lv_aload_n hx hb dL_law_1361 rfl (lv_at hl 1 rfl) ?_
  refine lv_aload_n hx hb dL_law_1362 rfl (lv_at hl 0 rfl) ?_
  refine lv_iload hx hb dL_law_1363 (lv_at hl 4 rfl) ?_
  refine lv_iconst (v := 1) hx hb dL_law_1365 (by decide) ?_
  refine lv_iadd hx hb dL_law_1366 ?_
  refine x_top (show (nI i) + 1 = nI (i + 1) from nI_add i 1) ?_
  refine va_sld hx hb hX hbl hbA G.2 (vp_in_nI (show i + 1 < L by omega) (by omega)) dL_law_1367 ?_
  rw [nI_clamp (show i + 1 < 2 ^ 31 by omega)]
  refine lv_aload_n hx hb dL_law_1368 rfl (lv_at hl 3 rfl) ?_
  refine x_callSw (rest := []) (fun H1 => xW D shm adm Vm H1) B E F hN G (fun H1 hz hk => Gm.keepK hap hk) hW (vx_cwSW 3 B.1.2.2.2.2 gL_law_L_promised rfl rfl rfl (by decide +kernel) ⟨Nat.le_of_ble_eq_true rfl, Nat.le_of_ble_eq_true rfl⟩) rfl hl.1 rfl (Nat.le_of_ble_eq_true rfl) hcs dL_law_1369 (fun v sh1 ad1 V1 H1 locs hR Gm1 hA1 B G => ?_)
  obtain ⟨rfl, hLI1, e_0, e_16, hans⟩ := hR
  have hap1 := hap.after Gm hA1
  have hDo1 := hDo9 _ _ _ _ _ hLI1
  have hl : lv_has ls 7 [(0, .ref b), (1, .ref (ad1 0)), (2, .ref (adm 17)), (3, .ref (ad1 16)), (4, .int (nI i))] := lv_cast hl (by rw [e_0, e_16])
  refine W.eq (g2 := F0 m 1372 ls [.int r]) rfl ?_
  refine lv_istore (lv' := [(5, .int r), (0, .ref b), (1, .ref (ad1 0)), (2, .ref (adm 17)), (3, .ref (ad1 16)), (4, .int (nI i))]) hx hb dL_law_1372 hl (by decide) rfl (fun ls hl => ?_)
  refine lv_aload_n hx hb dL_law_1374 rfl (lv_at hl 3 rfl) ?_
  refine lv_aload_n hx hb dL_law_1375 rfl (lv_at hl 1 rfl) ?_
  refine lv_iload hx hb dL_law_1376 (lv_at hl 5 rfl) ?_
  refine lv_iconst (v := 1) hx hb dL_law_1378 (by decide) ?_
  refine lv_iadd hx hb dL_law_1379 ?_
  refine x_top (show (nI i) + 1 = nI (i + 1) from nI_add i 1) ?_
  refine va_sld hx hb hX hbl hbA G.2 (vp_in_nI (show i + 1 < L by omega) (by omega)) dL_law_1380 ?_
  rw [nI_clamp (show i + 1 < 2 ^ 31 by omega)]
  refine x_callViK (rest := []) (fun H1 => xW D sh1 ad1 V1 H1) (xB.of B hIm hAm) ⟨Gm1, G.2⟩ (fun H1 hz hk => (show xW D sh1 ad1 V1 _ from G.1).keepK hap1.symm hk) hM (cwV 1 B.1.2.2.2.2 gL_law_X3_promised rfl rfl rfl (by decide +kernel) ⟨Nat.le_of_ble_eq_true rfl, Nat.le_of_ble_eq_true rfl⟩) (x_recv (xB.of B hIm hAm) ⟨Gm1, G.2⟩ 17 (q := (RX3, TX3, 21)) Mm.2.1.1 rfl) rfl hl.1 rfl (Nat.le_of_ble_eq_true rfl) ⟨by omega, by omega⟩ dL_law_1381 (fun H2 locs Gc G2 => ?_)
  have Gm2 := G2.1
  have G : xG D sh1 ad1 A s.heap V1 H2 locs := ⟨Gc, G2.2⟩
  refine lv_istore (lv' := [(6, .int o), (5, .int r), (0, .ref b), (1, .ref (ad1 0)), (2, .ref (adm 17)), (3, .ref (ad1 16)), (4, .int (nI i))]) hx hb dL_law_1384 hl (by decide) rfl (fun ls hl => ?_)
  refine lv_aload_n hx hb dL_law_1386 rfl (lv_at hl 4 rfl) ?_
  refine x_callViK (rest := []) (fun H1 => xW D sh1 ad1 V1 H1) (xB.of B hIm hAm) ⟨Gm2, G.2⟩ (fun H1 hz hk => (show xW D sh1 ad1 V1 _ from G.1).keepK hap1.symm hk) (c_X3_thrown l Mm Vm') (cwV 0 B.1.2.2.2.2 gL_law_X3_thrown rfl rfl rfl (by decide +kernel) ⟨Nat.le_of_ble_eq_true rfl, Nat.le_of_ble_eq_true rfl⟩) (x_recv (xB.of B hIm hAm) ⟨Gm2, G.2⟩ 17 (q := (RX3, TX3, 21)) Mm.2.1.1 rfl) rfl hl.1 rfl (Nat.le_of_ble_eq_true rfl) ⟨by omega, by omega⟩ dL_law_1387 (fun H3 locs Gc G3 => ?_)
  have Gm3 := G3.1
  have G : xG D sh1 ad1 A s.heap V1 H3 locs := ⟨Gc, G3.2⟩
  refine lv_iload hx hb dL_law_1390 (lv_at hl 1 rfl) ?_
  refine lv_icmp_eq (tgt := 1397) hx hb dL_law_1392 (by decide) (fun c_1392 => ?_) (fun c_1392 => ?_)
  · skip
    refine lv_iload hx hb dL_law_1397 (lv_at hl 1 rfl) ?_
    refine lv_if_ne (tgt := 1414) hx hb dL_law_1399 (by decide) (fun c_1399 => ?_) (fun c_1399 => ?_)
    · skip
      refine lv_goto (tgt := 1417) hx hb dL_law_1414 (by decide) ?_
      have hl := lv_sub (l' := [(0, .ref b), (1, .ref (ad1 0)), (2, .ref (adm 17)), (3, .ref (ad1 16)), (4, .int (nI i))]) hl [2, 3, 4, 5, 6] rfl
      exact cont sh1 ad1 V1 Vm' H3 locs ls ⟨B, G, Gm3, hap1, hLI1, hDo1, hl⟩
    · skip
      refine lv_aload_n hx hb dL_law_1402 rfl (lv_at hl 5 rfl) ?_
      refine lv_iconst (v := 0) hx hb dL_law_1403 (by decide) ?_
      refine x_lld B G hDo1.2 hT3 dL_law_1404 ?_
      refine lv_iload hx hb dL_law_1405 (lv_at hl 0 rfl) ?_
      refine lv_i2l hx hb dL_law_1407 rfl ?_
      refine W.lcmp hx hb dL_law_1408 ?_
      refine x_top (show _ = 0 from l_cmp0 (by rw [hans c_1399])) ?_
      refine lv_if_eq (tgt := 1414) hx hb dL_law_1409 (by decide) (fun c_1409 => ?_) (fun c_1409 => ?_)
      · skip
        refine lv_goto (tgt := 1417) hx hb dL_law_1414 (by decide) ?_
        have hl := lv_sub (l' := [(0, .ref b), (1, .ref (ad1 0)), (2, .ref (adm 17)), (3, .ref (ad1 16)), (4, .int (nI i))]) hl [2, 3, 4, 5, 6] rfl
        exact cont sh1 ad1 V1 Vm' H3 locs ls ⟨B, G, Gm3, hap1, hLI1, hDo1, hl⟩
      · exact False.elim (c_1409 (by decide))
  · exact False.elim (c_1392 hthr)
