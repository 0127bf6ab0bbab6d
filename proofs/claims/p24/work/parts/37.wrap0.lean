/-! THE LAW'S WRAPPERS: methods with a table that catch -/
def oMk (cJ : ClassId) : (Nat → Int32) → va_E := fun f => .inl (cJ, 1, .inr (.inl (fun j => (f j).toInt64)))
def xN (U : State) : Prop := va_Nc eIA eIO U ∧ va_Nc eIS eIO U ∧ va_Nc eIS eIA U
theorem xN.moved {s U : State} (h : xN s) (hvm : s.vm.Alike U.vm) : xN U := ⟨h.1.moved hvm, h.2.1.moved hvm, h.2.2.moved hvm⟩
abbrev rmW : Room := { frames := 16, cells := 8, slots := 180, locals := 900 }
def xPreW (D : va_G) (sh : xS) (ad : Nat → Nat) (tys : List (ClassId × FieldType)) (mi e0 : Nat) (sa : Nat → Nat) (V : xV) (av : List Value) (sz : Nat) : Array Value → State → Prop := va_Pc av (fun U => U.heap.size = sz ∧ xW D sh ad V U.heap ∧ va_K D vwCl tys U ∧ xE mi e0 (xA sh ad sz) U U.heap ∧ xF sa (xA sh ad sz) U U.heap ∧ xN U)
def xMw (l : Launch) (y : MethodName) (ws : List Cond) (D : va_G) (sh : xS) (ad : Nat → Nat) (tys : List (ClassId × FieldType)) (mi e0 : Nat) (sa : Nat → Nat) (V : xV) (av : List Value) (Rp : Option Value → xS → (Nat → Nat) → xV → Prop) : Prop :=
  ∀ sz : Nat, vx_Met l y ws rmW (xPreW D sh ad tys mi e0 sa V av sz) (xPa D sh ad tys sz Rp) (fun _ _ _ => False) 8 180 (xA sh ad sz)
theorem xPreW_blind {D : va_G} {sh : xS} {ad : Nat → Nat} {tys : List (ClassId × FieldType)} {mi e0 : Nat} {sa : Nat → Nat} {V : xV} {av : List Value} {sz : Nat} : FrameBlind (xPreW D sh ad tys mi e0 sa V av sz) := fun a U g mk q => by
  obtain ⟨q0, q1, q2, q3, q4, q5, q6⟩ := q
  exact ⟨q0, q1, q2, va_K.moved (u := U) (U := U.calling g mk a) (Vm.Alike.refl U.vm) q3, q4.moved (U := U.calling g mk a) (State.WarmedH.refl U) (fun _ _ _ => rfl), q5.moved (U := U.calling g mk a) (State.WarmedH.refl U) (fun _ _ _ => rfl), q6.moved (U := U.calling g mk a) (Vm.Alike.refl U.vm)⟩
abbrev xQw (below : List Frame) (D : va_G) (sh : xS) (ad : Nat → Nat) (tys : List (ClassId × FieldType)) (sz : Nat) (A : Nat → Prop) (args : Array Value) (s : State) (Rp : Option Value → xS → (Nat → Nat) → xV → Prop) : State → Prop := vx_MQ below (xPa D sh ad tys sz Rp) (fun _ _ _ => False) args s 8 180 A
theorem xOfw {l : Launch} {y : MethodName} {ws ws' : List Cond} {D : va_G} {sh : xS} {ad : Nat → Nat} {tys : List (ClassId × FieldType)} {mi e0 : Nat} {sa : Nat → Nat} {V : xV} {av : List Value} {cc : ByteArray} {nL : Nat} {ret : Option FieldType} {hh : List (Nat × Nat × Nat × Nat)} {own : String} {Rp : Option Value → xS → (Nat → Nat) → xV → Prop}
    (hy : plainName y.cls = true) (ho : y.cls = own) (hw : ws = Cond.codeWith y cc nL ret hh :: ws') (hlen : (lg_sl av).length ≤ nL) (hI : xI sh ad)
    (body : ∀ (p : Program) (e : Env) (s : State) (m : MethodId) (args : Array Value) (below : List Frame) (meth : Method) (c : Code) (A : Nat → Prop) (ls : Array Slot), A = xA sh ad s.heap.size → c.exceptionTable.toList = tableOf hh → xB p s m args meth c cc nL ret ws own D sh ad A tys → xE mi e0 A s s.heap → xF sa A s s.heap → xN s → xG D sh ad A s.heap V s.heap [] → lv_has ls nL (lv_args 0 av) → W p l e rmW s m args below meth c s.heap [] 0 0 (xQw below D sh ad tys s.heap.size A args s Rp) (F0 m 0 ls [])) :
    xMw l y ws D sh ad tys mi e0 sa V av Rp := by
  intro sz
  refine vx_ofWH (cc := cc) (maxL := nL) (ret := ret) (hh := hh) hy hw ?_
  intro p e s m args below meth c s₁ B hml hv
  obtain ⟨rfl, hsz, hP, hK, hE, hF, hN⟩ := hv
  subst hsz
  rw [lg_entry_eq]
  refine body p e s m _ below meth c (xA sh ad s.heap.size) _ rfl (vx_table (x := y) B (atoms_spec (ws := ws) B.pre _ (by rw [hw]; exact List.mem_cons_self))) ⟨⟨B.exec, B.bytes, hml, ?_, atoms_spec (ws := ws) B.pre⟩, B.returns, B.notSynchronized, hK, hI, fun i mk hi => Or.inl ⟨i, mk, hi, rfl⟩, fun q hq => Or.inr hq⟩ hE hF hN ⟨hP, va_S.rf⟩ (lv_entry av hlen)
  rw [← ho]
  exact findClass_of_methodNamed B.named
section XWr
variable {p : Program} {l : Launch} {e : Env} {R : Room} {s : State} {m : MethodId} {args : Array Value} {below : List Frame} {meth : Method} {c : Code} {H : Heap} {locs : List Loc} {cells slots : Nat} {Q : State → Prop}
variable {cc : ByteArray} {nL : Nat} {ret : Option FieldType} {Ts : List Cond} {own : String} {D : va_G} {sh : xS} {ad : Nat → Nat} {A : Nat → Prop} {tys : List (ClassId × FieldType)} {mi e0 : Nat} {sa : Nat → Nat} {V : xV} {pc : Nat} {ls : Array Slot} {rest st0 : List Value}
/-- the long put out -/
theorem x_lst (B : xB p s m args meth c cc nL ret Ts own D sh ad A tys) (G : xG D sh ad A s.heap V H locs) {cJ : ClassId} (hs : sh 16 = some (oMk cJ)) (ht : tys[3]? = some (cJ, .long)) {x : Int32} {v : Int64} (hv : v = x.toInt64) (hdg : decode cc pc = .ok (.lastore, 1))
    (kk : ∀ (H1 : Heap) (locs1 : List Loc), xG D sh ad A s.heap (xu V 16 0 x) H1 locs1 → W p l e R s m args below meth c H1 locs1 cells slots Q (F0 m (pc + 1) ls rest)) : W p l e R s m args below meth c H locs cells slots Q (F0 m pc ls (.long v :: .int 0 :: .ref (ad 16) :: rest)) := by
  obtain ⟨⟨hx, hb, hml, hown, hts⟩, -, -, hK, hI, hA, -⟩ := B
  subst hv
  refine W.last hx hb (G.1 16 _ hs) ((hK.2 3 _ ht).1 1 (fun j => .long (V 16 j).toInt64)) (fun q => by cases q) (by show ¬ (_ ∨ (arrV _ _ _).slots.size ≤ _); rw [arrV_size]; exact vp_in_nI (show 0 < 1 from Nat.one_pos) (show 1 < 2 ^ 31 from Nat.le_of_ble_eq_true rfl)) rfl rfl hdg fun H1 e1 z oq => ?_
  refine kk H1 _ ⟨xW.put G.1 hI hs ?_ oq, G.2.put z oq (hA 16 _ hs)⟩
  show H1[ad 16]? = some (vp_cell _ _)
  rw [e1]
  show some ((vp_cell cJ (1, .inr (.inl (fun j => (V 16 j).toInt64)))).setSlot 0 (.long x.toInt64)) = _
  rw [vp_cell_l, vp_cell_l, arrV_store]
  congr 2
  funext q
  by_cases hq : q = 0
  · subst hq
    simp [updV, upd]
  · simp [updV, upd, hq]
/-- a call whose throw is caught here -/
theorem x_callVc {y : MethodName} {bytes : ByteArray} {maxL n index : Nat} {rty : Option FieldType} {ws : List Cond} {rm : Room} {C : String} {b : Addr} {As : List Value} {E0 : String} {V' : xV}
    (B : xB p s m args meth c cc nL ret Ts own D sh ad A tys) (F : xF sa A s s.heap) (G : xG D sh ad A s.heap V H locs) (hM : xMx l y ws rm D sh ad tys sa V (.ref b :: As) E0 V') (cw : CallW R s args own C index y bytes maxL rty ws rm 1 6 n)
    (hrv : ∃ cell : Cell, H[b]? = some cell ∧ cell.vm.isStatics = false ∧ s.vm.findClass C = some cell.cls) (hn : As.length = n) (hsz : ls.size = nL) (hst : st0 = As.reverse ++ .ref b :: rest) (hW : (rest.map fun v => v.category).sum ≤ 8) (hcs : 1 ≤ R.cells ∧ 6 ≤ R.slots) (hdg : decode cc pc = .ok (.invokevirtual index, 3))
    (pre : List ExceptionTableEntry) (x : ExceptionTableEntry) (suf : List ExceptionTableEntry) (hsplit : c.exceptionTable.toList = pre ++ x :: suf) (hpass : ∀ z ∈ pre, covers z pc = false ∨ (z.catchType ≠ 0 ∧ ∃ nm : String, (Cond.classLink own z.catchType nm).before args s = true ∧ va_Nc E0 nm s)) (hx : covers x pc = true) (h0 : x.catchType ≠ 0)
    (hlink : Cond.classLink own x.catchType E0 ∈ Ts) (hcast : Cond.castable E0 E0 ∈ xFw)
    (kk : ∀ (q : Nat) (H1 : Heap) (locs1 : List Loc), xG D sh ad A s.heap V' H1 locs1 → W p l e R s m args below meth c H1 locs1 1 6 Q (F0 m x.handlerPc ls [.ref q])) : W p l e R s m args below meth c H locs 0 0 Q (F0 m pc ls st0) := by
  have hA := xB.lt B G
  intro T hT X
  rcases vx_runV (As := As) (rest := rest) B.1 (hM H.size) cw ⟨xPreF_blind, hrv, fun U hU hW => ⟨rfl, by rw [hU], by rw [hU]; exact G.1, va_K.moved hW.alike B.2.2.2.1, F.at B G hU hW⟩⟩ rfl hn hsz hst (lv_room hW) hdg (by simpa using hcs) T hT X with ⟨v, st₀, t, T', L, h0', X', hL, e1, e2, hf, st⟩ | ⟨q, st₀, t, T', L, E', ce, h0', X', hL, e1, e2, ⟨rfl, hb, hF⟩, hce, hcv, hcl, st⟩
  · exact hf.elim
  · obtain ⟨k1, k2, k3⟩ := vx_keep h0' e1 G.2 (fun q _ h => hA q h) hA hL hF
    obtain ⟨u, a1, b1⟩ := vx_catch (p := p) (l := l) (e := e) (R := R) (below := below) (H := T'.heap) (ls := ls) (rest := rest) (pc := pc) (Q := Q) B.1.2.2.2.1 pre x suf hsplit hpass hx h0 (B.1.2.2.2.2 _ hlink) (va_Nw.use (xFw_ok _ hcast).1 (F.2.2.1 _ hcast)) (by rw [e1]; exact hce) hcv hcl (kk q T'.heap (locs ++ L) ⟨by rw [e1]; exact hb.1, k3⟩) T' rfl (by simpa using X')
    exact ⟨u, st.trans a1, b1⟩
end XWr
