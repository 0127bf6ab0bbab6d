/-! THE LAW'S OWN METHODS: contracts and calls -/
theorem xMw.mono {l : Launch} {y : MethodName} {ws : List Cond} {D : va_G} {sh : xS} {ad : Nat → Nat} {tys : List (ClassId × FieldType)} {mi e0 : Nat} {sa : Nat → Nat} {V : xV} {av : List Value} {Rp Rp' : Option Value → xS → (Nat → Nat) → xV → Prop} (h : xMw l y ws D sh ad tys mi e0 sa V av Rp) (hR : ∀ v sh' ad' V', Rp v sh' ad' V' → Rp' v sh' ad' V') : xMw l y ws D sh ad tys mi e0 sa V av Rp' := by
  intro sz p e ha hc hk s m args below h1 h2 h3 h4
  obtain ⟨n, o, g1, g2, g3, g4⟩ := h sz p e ha hc hk s m args below h1 h2 h3 h4
  refine ⟨n, o, g1, g2, g3, ?_⟩
  rcases g4 with ⟨⟨v, sh', ad', V', q1, q2, q3⟩, q4⟩ | ⟨q, z1, E, ce, L, z2, z3⟩
  · exact Or.inl ⟨⟨v, sh', ad', V', q1, hR _ _ _ _ q2, q3⟩, q4⟩
  · exact z2.elim
/-- CONTRACT of a method without a table, that may make things and call wrappers -/
def xMl (l : Launch) (y : MethodName) (ws : List Cond) (rm : Room) (D : va_G) (sh : xS) (ad : Nat → Nat) (tys : List (ClassId × FieldType)) (mi e0 : Nat) (sa : Nat → Nat) (V : xV) (av : List Value) (Rp : Option Value → xS → (Nat → Nat) → xV → Prop) : Prop :=
  ∀ sz : Nat, Met l y ws rm (xPreW D sh ad tys mi e0 sa V av sz) (xPa D sh ad tys sz Rp) rm.cells rm.slots (xA sh ad sz)
theorem xOfl {l : Launch} {y : MethodName} {ws ws' : List Cond} {rm : Room} {D : va_G} {sh : xS} {ad : Nat → Nat} {tys : List (ClassId × FieldType)} {mi e0 : Nat} {sa : Nat → Nat} {V : xV} {av : List Value} {cc : ByteArray} {nL : Nat} {ret : Option FieldType} {own : String} {Rp : Option Value → xS → (Nat → Nat) → xV → Prop}
    (hy : plainName y.cls = true) (ho : y.cls = own) (hw : ws = Cond.code y cc nL ret :: ws') (hlen : (lg_sl av).length ≤ nL) (hI : xI sh ad)
    (body : ∀ (p : Program) (e : Env) (s : State) (m : MethodId) (args : Array Value) (below : List Frame) (meth : Method) (c : Code) (A : Nat → Prop) (ls : Array Slot), A = xA sh ad s.heap.size → xB p s m args meth c cc nL ret ws own D sh ad A tys → xE mi e0 A s s.heap → xF sa A s s.heap → xN s → xG D sh ad A s.heap V s.heap [] → lv_has ls nL (lv_args 0 av) → W p l e rm s m args below meth c s.heap [] 0 0 (xQa below D sh ad tys s.heap.size A args s rm.cells rm.slots Rp) (F0 m 0 ls [])) :
    xMl l y ws rm D sh ad tys mi e0 sa V av Rp := by
  intro sz
  refine Met.ofW (cc := cc) (maxL := nL) (ret := ret) hy hw ?_
  intro p e s m args below meth c s₁ B hml hv
  obtain ⟨rfl, hsz, hP, hK, hE, hF, hN⟩ := hv
  subst hsz
  rw [lg_entry_eq]
  refine body p e s m _ below meth c (xA sh ad s.heap.size) _ rfl ⟨⟨B.exec, B.bytes, hml, ?_, atoms_spec (ws := ws) B.pre⟩, B.returns, B.notSynchronized, hK, hI, fun i mk hi => Or.inl ⟨i, mk, hi, rfl⟩, fun q hq => Or.inr hq⟩ hE hF hN ⟨hP, va_S.rf⟩ (lv_entry av hlen)
  rw [← ho]
  exact findClass_of_methodNamed B.named
theorem xMl.mono {l : Launch} {y : MethodName} {ws : List Cond} {rm : Room} {D : va_G} {sh : xS} {ad : Nat → Nat} {tys : List (ClassId × FieldType)} {mi e0 : Nat} {sa : Nat → Nat} {V : xV} {av : List Value} {Rp Rp' : Option Value → xS → (Nat → Nat) → xV → Prop} (h : xMl l y ws rm D sh ad tys mi e0 sa V av Rp) (hR : ∀ v sh' ad' V', Rp v sh' ad' V' → Rp' v sh' ad' V') : xMl l y ws rm D sh ad tys mi e0 sa V av Rp' := by
  intro sz p e ha hc hk s m args below h1 h2 h3 h4
  obtain ⟨n, o, g1, g2, g3, ⟨v, sh', ad', V', q1, q2, q3⟩, g5⟩ := h sz p e ha hc hk s m args below h1 h2 h3 h4
  exact ⟨n, o, g1, g2, g3, ⟨v, sh', ad', V', q1, hR _ _ _ _ q2, q3⟩, g5⟩
/-- the script's number at a place, or what stands for it behind its end -/
def cellQ (L : Nat) (xs : Nat → Int32) (k : Nat) : Int32 := if k < L then xs k else 2752337 * nI k + 1229
def lowN (v : Int32) : Nat := v.toBitVec.toNat % 2 ^ 31
def xPreC (D : va_G) (tys : List (ClassId × FieldType)) (b L : Nat) (xs : Nat → Int32) (av : List Value) (sz : Nat) : Array Value → State → Prop := va_Pc av (fun U => U.heap.size = sz ∧ va_X b L xs U U.heap ∧ va_K D vwCl tys U)
theorem xPreC_blind {D : va_G} {tys : List (ClassId × FieldType)} {b L : Nat} {xs : Nat → Int32} {av : List Value} {sz : Nat} : FrameBlind (xPreC D tys b L xs av sz) := fun a U g mk q => by
  obtain ⟨q0, q1, q2, q3⟩ := q
  exact ⟨q0, q1, va_X.moved (u := U) (U := U.calling g mk a) (Vm.Alike.refl U.vm) q2, va_K.moved (u := U) (U := U.calling g mk a) (Vm.Alike.refl U.vm) q3⟩
def xMc (l : Launch) (D : va_G) (tys : List (ClassId × FieldType)) (b L : Nat) (xs : Nat → Int32) (k : Nat) : Prop :=
  ∀ sz : Nat, Met l yL_cell wsL_cell (rmK 0) (xPreC D tys b L xs [.ref b, .int (nI k)] sz) (va_Qi (fun r' u => r' = cellQ L xs k ∧ u = (fun _ _ => 0)) (xEnd D sN (fun _ => 0) tys) (xA sN (fun _ => 0) sz)) 0 0 (xA sN (fun _ => 0) sz)
set_option maxRecDepth 100000 in
theorem c_L_cell (l : Launch) (D : va_G) (tys : List (ClassId × FieldType)) (b L : Nat) (xs : Nat → Int32) (k : Nat) (hk : k < 2 ^ 31) (hL : L < 2 ^ 31) : xMc l D tys b L xs k := by
  intro sz
  refine Met.ofW (cc := cL_cell) (maxL := 2) (ret := some .int) (by decide) rfl ?_
  intro p e s m args below meth c s₁ B hml hv
  obtain ⟨rfl, hsz, hX, hK⟩ := hv
  subst hsz
  rw [lg_entry_eq]
  have hbl : b < s.heap.size := by
    obtain ⟨scr, h1, -⟩ := hX
    exact (Array.getElem?_eq_some_iff.mp h1).1
  have hbA : ¬ xA sN (fun _ => 0) s.heap.size b := by
    intro z
    rcases z with ⟨i, mk, h, -⟩ | h
    · exact nomatch h
    · omega
  have hl := lv_entry ([.ref b, .int (nI k)]) (n := 2) (Nat.le_of_ble_eq_true rfl)
  generalize (lg_sl ([.ref b, .int (nI k)]) ++ List.replicate (2 - (lg_sl ([.ref b, .int (nI k)])).length) Slot.unset).toArray = ls at hl ⊢
  have hl : lv_has ls 2 [(0, .ref b), (1, .int (nI k))] := hl
  have hx := B.exec
  have hb := B.bytes
  have hown : s.vm.findClass RL = some m.cls := findClass_of_methodNamed B.named
  have B : xB p s m #[Value.ref b, .int (nI k)] meth c cL_cell 2 (some .int) wsL_cell RL D sN (fun _ => 0) (xA sN (fun _ => 0) s.heap.size) tys := ⟨⟨B.exec, B.bytes, hml, hown, atoms_spec (ws := wsL_cell) B.pre⟩, B.returns, B.notSynchronized, hK, fun i j mi mj h => (nomatch h), fun i mk h => (nomatch h), fun q h => Or.inr h⟩
  have G : xG D sN (fun _ => 0) (xA sN (fun _ => 0) s.heap.size) s.heap (fun _ _ => 0) s.heap [] := ⟨fun i mk h => (nomatch h), va_S.rf⟩
  refine lv_iload_n hx hb dL_cell_0 rfl (lv_at hl 1 rfl) ?_
  refine lv_aload_n hx hb dL_cell_1 rfl (lv_at hl 0 rfl) ?_
  refine va_slen hx hb hX hbl hbA G.2 dL_cell_2 ?_
  refine lv_icmp_ge (tgt := 12) hx hb dL_cell_3 (by decide) (fun c_3 => ?_) (fun c_3 => ?_)
  · have c_3 : L ≤ k := (nI_leI (a := L) (b := k) hL hk).mp c_3
    refine lv_ldc (v := 2752337) hx hb hown (B.1.2.2.2.2 (Cond.constant RL 7 2752337) (by decide +kernel)) dL_cell_12 ?_
    refine lv_iload_n hx hb dL_cell_14 rfl (lv_at hl 1 rfl) ?_
    refine lv_imul hx hb dL_cell_15 ?_
    refine lv_sipush (v := 1229) hx hb dL_cell_16 (by decide) ?_
    refine lv_iadd hx hb dL_cell_19 ?_
    exact x_iret B G (by unfold cellQ; rw [if_neg (by omega)]) rfl dL_cell_20
  · have c_3 : k < L := Nat.lt_of_not_le (fun z => c_3 ((nI_leI (a := L) (b := k) hL hk).mpr z))
    refine lv_aload_n hx hb dL_cell_6 rfl (lv_at hl 0 rfl) ?_
    refine lv_iload_n hx hb dL_cell_7 rfl (lv_at hl 1 rfl) ?_
    refine va_sld hx hb hX hbl hbA G.2 (vp_in_nI c_3 hL) dL_cell_8 ?_
    rw [nI_clamp hk]
    refine lv_goto (tgt := 20) hx hb dL_cell_9 (by decide) ?_
    exact x_iret B G (by unfold cellQ; rw [if_pos c_3]) rfl dL_cell_20
section XLl
variable {p : Program} {l : Launch} {e : Env} {R : Room} {s : State} {m : MethodId} {args : Array Value} {below : List Frame} {meth : Method} {c : Code} {H : Heap} {locs : List Loc} {cells slots : Nat} {Q : State → Prop}
variable {cc : ByteArray} {nL : Nat} {ret : Option FieldType} {Ts : List Cond} {own : String} {D : va_G} {sh : xS} {ad : Nat → Nat} {A : Nat → Prop} {tys : List (ClassId × FieldType)} {mi e0 : Nat} {sa : Nat → Nat} {V : xV} {pc : Nat} {ls : Array Slot} {rest st0 : List Value}
theorem x_callSl {y : MethodName} {bytes : ByteArray} {maxL n index : Nat} {rty : Option FieldType} {ws : List Cond} {rm : Room} {As : List Value} {Rp : Option Value → xS → (Nat → Nat) → xV → Prop}
    (B : xB p s m args meth c cc nL ret Ts own D sh ad A tys) (E : xE mi e0 A s s.heap) (F : xF sa A s s.heap) (hN : xN s) (G : xG D sh ad A s.heap V H locs) (hM : xMl l y ws rm D sh ad tys mi e0 sa V As Rp) (cw : CallB R s args own index y bytes maxL rty ws rm rm.cells rm.slots n ∧ (Cond.static y).before args s = true)
    (hn : As.length = n) (hsz : ls.size = nL) (hst : st0 = As.reverse ++ rest) (hW : (rest.map fun v => v.category).sum ≤ 8) (hcs : cells + rm.cells ≤ R.cells ∧ slots + rm.slots ≤ R.slots) (hdg : decode cc pc = .ok (.invokestatic index, 3))
    (kk : ∀ (v : Option Value) (sh' : xS) (ad' : Nat → Nat) (V' : xV) (H1 : Heap) (locs1 : List Loc), Rp v sh' ad' V' → xB p s m args meth c cc nL ret Ts own D sh' ad' A tys → xG D sh' ad' A s.heap V' H1 locs1 → W p l e R s m args below meth c H1 locs1 (cells + rm.cells) (slots + rm.slots) Q (F0 m (pc + 3) ls (v.toList ++ rest))) : W p l e R s m args below meth c H locs cells slots Q (F0 m pc ls st0) :=
  x_callA B G (va_runS (As := As) (rest := rest) B.1 (hM H.size) cw ⟨xPreW_blind, fun U hU hW => ⟨rfl, by rw [hU], by rw [hU]; exact G.1, va_K.moved hW.alike B.2.2.2.1, E.at B G hU hW, F.at B G hU hW, hN.moved hW.alike⟩⟩ rfl hn hsz hst (lv_room hW) hdg hcs) kk
/-- a call of a wrapper -/
theorem x_callSw {y : MethodName} {bytes : ByteArray} {maxL n index : Nat} {rty : Option FieldType} {hh : List (Nat × Nat × Nat × Nat)} {ws : List Cond} {As : List Value} {Rp : Option Value → xS → (Nat → Nat) → xV → Prop}
    (B : xB p s m args meth c cc nL ret Ts own D sh ad A tys) (E : xE mi e0 A s s.heap) (F : xF sa A s s.heap) (hN : xN s) (G : xG D sh ad A s.heap V H locs) (hM : xMw l y ws D sh ad tys mi e0 sa V As Rp) (cw : vx_CSW R s args own index y bytes maxL rty hh ws rmW 8 180 n)
    (hn : As.length = n) (hsz : ls.size = nL) (hst : st0 = As.reverse ++ rest) (hW : (rest.map fun v => v.category).sum ≤ 8) (hcs : cells + 8 ≤ R.cells ∧ slots + 180 ≤ R.slots) (hdg : decode cc pc = .ok (.invokestatic index, 3))
    (kk : ∀ (v : Option Value) (sh' : xS) (ad' : Nat → Nat) (V' : xV) (H1 : Heap) (locs1 : List Loc), Rp v sh' ad' V' → xB p s m args meth c cc nL ret Ts own D sh' ad' A tys → xG D sh' ad' A s.heap V' H1 locs1 → W p l e R s m args below meth c H1 locs1 (cells + 8) (slots + 180) Q (F0 m (pc + 3) ls (v.toList ++ rest))) : W p l e R s m args below meth c H locs cells slots Q (F0 m pc ls st0) := by
  have hA := xB.lt B G
  intro T hT X
  rcases vx_runSX (As := As) (rest := rest) B.1 (hM H.size) cw ⟨xPreW_blind, fun U hU hW => ⟨rfl, by rw [hU], by rw [hU]; exact G.1, va_K.moved hW.alike B.2.2.2.1, E.at B G hU hW, F.at B G hU hW, hN.moved hW.alike⟩⟩ rfl hn hsz hst (lv_room hW) hdg hcs T hT X with ⟨v, st₀, t, T', L, h0, X', hL, e1, e2, ⟨v', sh', ad', V', hv, hR, hI', hA', hE, hF⟩, st⟩ | ⟨q, st₀, t, T', L, E', ce, h0, X', hL, e1, e2, hf, hce, hcv, hcl, st⟩
  · cases hv
    obtain ⟨k1, k2, k3⟩ := vx_keep h0 e1 G.2 (fun q _ h => hA q h) hA hL hF
    obtain ⟨b1, b2, b3, b4, b5, b6, b7⟩ := B
    obtain ⟨t2, a1, b1'⟩ := kk _ sh' ad' V' T'.heap (locs ++ L) hR ⟨b1, b2, b3, b4, hI', fun i mk hi => hA _ (hA' i mk hi), b7⟩ ⟨by rw [e1]; exact hE.1, k3⟩ T' rfl X'
    exact ⟨t2, st t2 a1, b1'⟩
  · exact hf.elim
/-- a call of cell: the script is none of the world's things -/
theorem x_callCell {b L k index : Nat} {xs : Nat → Int32} (B : xB p s m args meth c cc nL ret Ts own D sh ad A tys) (G : xG D sh ad A s.heap V H locs) (hX : va_X b L xs s s.heap) (hbl : b < s.heap.size) (hbA : ¬ A b) (hk : k < 2 ^ 31) (hL : L < 2 ^ 31) (cw : CallB R s args own index yL_cell cL_cell 2 (some .int) wsL_cell (rmK 0) 0 0 2 ∧ (Cond.static yL_cell).before args s = true)
    (hsz : ls.size = nL) (hW : (rest.map fun v => v.category).sum ≤ 8) (hcs : cells ≤ R.cells ∧ slots ≤ R.slots) (hdg : decode cc pc = .ok (.invokestatic index, 3))
    (kk : ∀ (H1 : Heap) (locs1 : List Loc), xG D sh ad A s.heap V H1 locs1 → W p l e R s m args below meth c H1 locs1 cells slots Q (F0 m (pc + 3) ls (.int (cellQ L xs k) :: rest))) : W p l e R s m args below meth c H locs cells slots Q (F0 m pc ls (.int (nI k) :: .ref b :: rest)) := by
  have hA0 : ∀ q : Nat, xA sN (fun _ => 0) H.size q → H.size ≤ q := by
    intro q hq
    rcases hq with ⟨i, mk, h, -⟩ | h
    · exact nomatch h
    · exact h
  have hA : ∀ q : Nat, xA sN (fun _ => 0) H.size q → A q := fun q hq => B.2.2.2.2.2.2 q (Nat.le_trans G.2.1 (hA0 q hq))
  have hXH : va_X b L xs s H := hX.kept (G.2.2.1 b hbl hbA)
  refine va_calli (va_runS (As := [.ref b, .int (nI k)]) (rest := rest) B.1 (c_L_cell l D tys b L xs k hk hL H.size) cw ⟨xPreC_blind, fun U hU hW => ⟨rfl, by rw [hU], by rw [hU]; exact hXH.moved hW.alike, va_K.moved hW.alike B.2.2.2.1⟩⟩ rfl rfl hsz rfl (lv_room hW) hdg hcs) G.2 (fun q _ h => hA q h) hA (fun r9 u t H1 locs1 ht hvm hw hB hz1 hk1 hS => ?_)
  obtain ⟨rfl, -⟩ := hw
  refine kk H1 locs1 ⟨G.1.keep (fun i mk hi => hk1 _ (G.1 i mk hi).lt (fun z => ?_)), hS⟩
  have := hA0 _ z
  have := (G.1 i mk hi).lt
  omega
end XLl
