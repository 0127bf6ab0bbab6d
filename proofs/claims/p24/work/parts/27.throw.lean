/-! METHODS THAT THROW -/
abbrev eIO : String := "java/lang/IndexOutOfBoundsException"
abbrev eIA : String := "java/lang/IllegalArgumentException"
abbrev eIS : String := "java/lang/IllegalStateException"
abbrev eCh : List String := ["java/lang/RuntimeException", "java/lang/Exception"]
def xFw : List Cond := [.declares (Bundle.initS "java/lang/RuntimeException"), .declares (Bundle.initS "java/lang/Exception"), .declares (Bundle.initS "java/lang/Throwable"), .castable eIO eIO, .castable eIA eIA, .castable eIS eIS]
def xFs : List (Nat × String) := [(46, "no such node"), (57, "not a bundle that can be sent"), (66, "no more bundles"), (73, "refused"), (101, "not a meeting"), (120, "seconds out of range"), (135, "places out of range"), (141, "the node has more bundles"), (144, "not a contact"), (149, "no more contacts"), (174, "the node does not have so many"), (195, "no such bundle")]
theorem va_Nw.warmAll {w : Cond} (h1 : w.onTables = true) (h2 : w.keepsFace = true) {s U : State} (hW : s.WarmedH U.vm) (h : va_Nw w s) : va_Nw w U :=
  va_tabs h1 (rfl : (s.setVm U.vm).vm = U.vm) (Cond.before_shiftedFace (State.Shifted.of_warmed hW) w h2 h)
/-- what a throw stands on, besides the tables -/
def xF (sa : Nat → Nat) (A : Nat → Prop) (U : State) (H : Heap) : Prop :=
  vx_Zq Bundle.tN "UNASSIGNED_STACK" Bundle.steD A U H ∧ vx_Zq Bundle.tN "SUPPRESSED_SENTINEL" Bundle.listD A U H ∧ (∀ w ∈ xFw, va_Nw w U) ∧ ∀ q ∈ xFs, vk_R RX2 q.1 q.2 (sa q.1) U
theorem xFw_ok : ∀ w ∈ xFw, w.onTables = true ∧ w.keepsFace = true := by decide +kernel
theorem xF.moved {sa : Nat → Nat} {A : Nat → Prop} {s U : State} {H H1 : Heap} (hW : s.WarmedH U.vm) (h : xF sa A s H) (hq : ∀ a : Nat, a < H.size → ¬ A a → H1[a]? = H[a]?) : xF sa A U H1 :=
  ⟨vx_Zq.moved hW.alike (h.1.kept hq), vx_Zq.moved hW.alike (h.2.1.kept hq), fun w hw => va_Nw.warmAll (xFw_ok w hw).1 (xFw_ok w hw).2 hW (h.2.2.1 w hw), fun q hq => vk_R.warm hW (h.2.2.2 q hq)⟩
theorem xF.narrow {sa : Nat → Nat} {A B : Nat → Prop} {U : State} {H : Heap} (h : xF sa A U H) (hAB : ∀ q, B q → A q) : xF sa B U H := ⟨h.1.narrow hAB, h.2.1.narrow hAB, h.2.2⟩
def rmX (k : Nat) : Room := { frames := k + 6, cells := 1, slots := 6, locals := 40 * k + 130 }
def xPreF (D : va_G) (sh : xS) (ad : Nat → Nat) (tys : List (ClassId × FieldType)) (sa : Nat → Nat) (V : xV) (av : List Value) (sz : Nat) : Array Value → State → Prop := va_Pc av (fun U => U.heap.size = sz ∧ xW D sh ad V U.heap ∧ va_K D vwCl tys U ∧ xF sa (xA sh ad sz) U U.heap)
abbrev xXC (D : va_G) (sh : xS) (ad : Nat → Nat) (tys : List (ClassId × FieldType)) (A : Nat → Prop) (E : String) (V' : xV) : String → State → State → Prop := fun E' st t => E' = E ∧ xEnd D sh ad tys V' t ∧ va_F A st t
/-- CONTRACT: called with av in the world V the method throws an E, and the world is V' then -/
def xMx (l : Launch) (y : MethodName) (ws : List Cond) (rm : Room) (D : va_G) (sh : xS) (ad : Nat → Nat) (tys : List (ClassId × FieldType)) (sa : Nat → Nat) (V : xV) (av : List Value) (E : String) (V' : xV) : Prop :=
  ∀ sz : Nat, vx_Met l y ws rm (xPreF D sh ad tys sa V av sz) (fun _ _ _ _ => False) (xXC D sh ad tys (xA sh ad sz) E V') 1 6 (xA sh ad sz)
abbrev xQx (below : List Frame) (D : va_G) (sh : xS) (ad : Nat → Nat) (tys : List (ClassId × FieldType)) (A : Nat → Prop) (args : Array Value) (s : State) (E : String) (V' : xV) : State → Prop := vx_MQ below (fun _ _ _ _ => False) (xXC D sh ad tys A E V') args s 1 6 A
theorem xPreF_blind {D : va_G} {sh : xS} {ad : Nat → Nat} {tys : List (ClassId × FieldType)} {sa : Nat → Nat} {V : xV} {av : List Value} {sz : Nat} : FrameBlind (xPreF D sh ad tys sa V av sz) := fun a U g mk q => by
  obtain ⟨q0, q1, q2, q3, q4⟩ := q
  exact ⟨q0, q1, q2, va_K.moved (u := U) (U := U.calling g mk a) (Vm.Alike.refl U.vm) q3, q4.moved (U := U.calling g mk a) (State.WarmedH.refl U) (fun _ _ _ => rfl)⟩
theorem xOfx {l : Launch} {y : MethodName} {ws ws' : List Cond} {rm : Room} {D : va_G} {sh : xS} {ad : Nat → Nat} {tys : List (ClassId × FieldType)} {sa : Nat → Nat} {V : xV} {av : List Value} {cc : ByteArray} {nL : Nat} {ret : Option FieldType} {own : String} {E : String} {V' : xV}
    (hy : plainName y.cls = true) (ho : y.cls = own) (hw : ws = Cond.code y cc nL ret :: ws') (hlen : (lg_sl av).length ≤ nL) (hI : xI sh ad)
    (body : ∀ (p : Program) (e : Env) (s : State) (m : MethodId) (args : Array Value) (below : List Frame) (meth : Method) (c : Code) (A : Nat → Prop) (ls : Array Slot), xB p s m args meth c cc nL ret ws own D sh ad A tys → (∀ x ∈ c.exceptionTable.toList, False) → xF sa A s s.heap → xG D sh ad A s.heap V s.heap [] → lv_has ls nL (lv_args 0 av) → W p l e rm s m args below meth c s.heap [] 0 0 (xQx below D sh ad tys A args s E V') (F0 m 0 ls [])) :
    xMx l y ws rm D sh ad tys sa V av E V' := by
  intro sz
  refine vx_ofW (cc := cc) (maxL := nL) (ret := ret) hy hw ?_
  intro p e s m args below meth c s₁ B hml hex hv
  obtain ⟨rfl, hsz, hP, hK, hF⟩ := hv
  subst hsz
  rw [lg_entry_eq]
  refine body p e s m _ below meth c (xA sh ad s.heap.size) _ ⟨⟨B.exec, B.bytes, hml, ?_, atoms_spec (ws := ws) B.pre⟩, B.returns, B.notSynchronized, hK, hI, fun i mk hi => Or.inl ⟨i, mk, hi, rfl⟩, fun q hq => Or.inr hq⟩ hex hF ⟨hP, va_S.rf⟩ (lv_entry av hlen)
  rw [← ho]
  exact findClass_of_methodNamed B.named
section XT
variable {p : Program} {l : Launch} {e : Env} {R : Room} {s : State} {m : MethodId} {args : Array Value} {below : List Frame} {meth : Method} {c : Code} {H : Heap} {locs : List Loc} {cells slots : Nat} {Q : State → Prop}
variable {cc : ByteArray} {nL : Nat} {ret : Option FieldType} {Ts : List Cond} {own : String} {D : va_G} {sh : xS} {ad : Nat → Nat} {A : Nat → Prop} {tys : List (ClassId × FieldType)} {sa : Nat → Nat} {V : xV} {pc : Nat} {ls : Array Slot} {rest st0 : List Value}
theorem xF.at (B : xB p s m args meth c cc nL ret Ts own D sh ad A tys) (G : xG D sh ad A s.heap V H locs) (F : xF sa A s s.heap) {U : State} (hU : U.heap = H) (hW : s.WarmedH U.vm) : xF sa (xA sh ad H.size) U U.heap := by
  rw [hU]
  exact (F.moved hW (fun a h1 h2 => G.2.2.1 a h1 h2)).narrow (xB.lt B G)
theorem x_throw (B : xB p s m args meth c cc nL ret Ts RX2 D sh ad A tys) (hex : ∀ x ∈ c.exceptionTable.toList, False) (F : xF sa A s s.heap) (G : xG D sh ad A s.heap V H locs) (hl : l.stackTraces = false) {cls text : String} {ik is ic : Nat} {V' : xV} (hV : V = V')
    (hcls : Bundle.fit cls = true) (hk : Cond.classLink RX2 ik cls ∈ Ts) (hini : Cond.initialized cls ∈ Ts) (hat : ∀ w ∈ (vx_atS RX2 ic cls eCh).filter goodWord, w ∈ Ts) (hat2 : ∀ w ∈ (vx_atS RX2 ic cls eCh).filter (fun w => !goodWord w), w ∈ xFw) (hot : (Cond.classLink RX2 ik cls :: Cond.initialized cls :: vx_atS RX2 ic cls eCh).all vx_ot = true)
    (hstr : (is, text) ∈ xFs) (hsize : ls.size = nL)
    (d0 : decode cc pc = .ok (.new ik, 3)) (d3 : decode cc (pc + 3) = .ok (.dup, 1)) (d4 : decode cc (pc + 4) = .ok (.ldc is, 2)) (d6 : decode cc (pc + 6) = .ok (.invokespecial ic, 3)) (d9 : decode cc (pc + 9) = .ok (.athrow, 1))
    (hR : 5 < R.frames ∧ 82 ≤ R.locals ∧ 1 ≤ R.cells ∧ 6 ≤ R.slots) : W p l e R s m args below meth c H locs 0 0 (xQx below D sh ad tys A args s cls V') (F0 m pc ls []) := by
  obtain ⟨⟨hx, hb, hml, hown, hts⟩, hr, hlocks, hK, hI, hA, hA2⟩ := B
  subst hV
  refine vx_throwS (own := RX2) (names := eCh) (text := text) (A := A) (sa := sa is) hx hb hl hown hcls (by decide +kernel) (hts _ hk) (hts _ hini) (F.2.2.2 _ hstr) (vx_hat (fun w hw => hts _ (hat w hw)) hat2 (fun w hw => va_Nw.use (xFw_ok w hw).1 (F.2.2.1 w hw))) (List.all_eq_true.mp hot) F.1 F.2.1 G.2 (hsize.trans hml.symm) d0 d3 d4 d6 d9 (fun x h => (hex x h).elim) hR.1 (by show 0 + _ ≤ _; exact hR.2.1) (by omega) (by omega) hlocks (fun t ht h1 h2 => ⟨rfl, ⟨G.1.keep (fun i mk hi => h2 _ (G.1 i mk hi).lt), va_K.moved ht hK⟩, Nat.le_trans G.2.1 h1, fun q a1 a2 => (h2 q (Nat.lt_of_lt_of_le a1 G.2.1)).trans (G.2.2.1 q a1 a2)⟩) G.2.2.2 (Nat.le_refl _) (Nat.le_refl _)
theorem x_outx (B : xB p s m args meth c cc nL ret Ts own D sh ad A tys) (hex : ∀ x ∈ c.exceptionTable.toList, False) (G : xG D sh ad A s.heap V H locs) {H1 : Heap} {locs1 : List Loc} {E : String} {V' : xV} {ce : Cell} {q : Addr} {t : State}
    (h1 : t.heap = H1) (hE : xEnd D sh ad tys V' t) (hS : va_S A s.heap H1 locs1) (hce : H1[q]? = some ce) (hcv : ce.vm = .none) (hcl : s.vm.findClass E = some ce.cls) : vx_W p l e R s m args below meth c H1 locs1 1 6 (xQx below D sh ad tys A args s E V') (F0 m pc ls rest) q := by
  obtain ⟨⟨hx, hb, hml, hown, hts⟩, hr, hlocks, hK, hI, hA, hA2⟩ := B
  exact vx_out (fun x h => (hex x h).elim) hlocks hce hcv hcl (fun u hu hW => ⟨rfl, ⟨by rw [hu, ← h1]; exact hE.1, va_K.moved hW hK⟩, hS.F hu⟩) hS.2.2 (Nat.le_refl _) (Nat.le_refl _)
theorem x_callVx {y : MethodName} {bytes : ByteArray} {maxL n index : Nat} {rty : Option FieldType} {ws : List Cond} {rm : Room} {C : String} {b : Addr} {As : List Value} {E : String} {V' : xV}
    (B : xB p s m args meth c cc nL ret Ts own D sh ad A tys) (hex : ∀ x ∈ c.exceptionTable.toList, False) (F : xF sa A s s.heap) (G : xG D sh ad A s.heap V H locs) (hM : xMx l y ws rm D sh ad tys sa V (.ref b :: As) E V') (cw : CallW R s args own C index y bytes maxL rty ws rm 1 6 n)
    (hrv : ∃ cell : Cell, H[b]? = some cell ∧ cell.vm.isStatics = false ∧ s.vm.findClass C = some cell.cls) (hn : As.length = n) (hsz : ls.size = nL) (hst : st0 = As.reverse ++ .ref b :: rest) (hW : (rest.map fun v => v.category).sum ≤ 8) (hcs : 1 ≤ R.cells ∧ 6 ≤ R.slots) (hdg : decode cc pc = .ok (.invokevirtual index, 3)) :
    W p l e R s m args below meth c H locs 0 0 (xQx below D sh ad tys A args s E V') (F0 m pc ls st0) := by
  have hA := xB.lt B G
  intro T hT X
  rcases vx_runV (As := As) (rest := rest) B.1 (hM H.size) cw ⟨xPreF_blind, hrv, fun U hU hW => ⟨rfl, by rw [hU], by rw [hU]; exact G.1, va_K.moved hW.alike B.2.2.2.1, F.at B G hU hW⟩⟩ rfl hn hsz hst (lv_room hW) hdg (by simpa using hcs) T hT X with ⟨v, st₀, t, T', L, h0, X', hL, e1, e2, hf, st⟩ | ⟨q, st₀, t, T', L, E', ce, h0, X', hL, e1, e2, ⟨rfl, hb, hF⟩, hce, hcv, hcl, st⟩
  · exact hf.elim
  · obtain ⟨k1, k2, k3⟩ := vx_keep h0 e1 G.2 (fun q _ h => hA q h) hA hL hF
    obtain ⟨u, a1, b1⟩ := x_outx (R := R) (below := below) (l := l) (e := e) (pc := pc) (ls := ls) (rest := rest) B hex G e1.symm hb k3 (by rw [e1]; exact hce) hcv hcl T' rfl (by simpa using X')
    exact ⟨u, st.trans a1, b1⟩
theorem x_callSx {y : MethodName} {bytes : ByteArray} {maxL n index : Nat} {rty : Option FieldType} {ws : List Cond} {rm : Room} {As : List Value} {E : String} {V' : xV}
    (B : xB p s m args meth c cc nL ret Ts own D sh ad A tys) (hex : ∀ x ∈ c.exceptionTable.toList, False) (F : xF sa A s s.heap) (G : xG D sh ad A s.heap V H locs) (hM : xMx l y ws rm D sh ad tys sa V As E V') (cw : CallB R s args own index y bytes maxL rty ws rm 1 6 n ∧ (Cond.static y).before args s = true)
    (hn : As.length = n) (hsz : ls.size = nL) (hst : st0 = As.reverse ++ rest) (hW : (rest.map fun v => v.category).sum ≤ 8) (hcs : 1 ≤ R.cells ∧ 6 ≤ R.slots) (hdg : decode cc pc = .ok (.invokestatic index, 3)) :
    W p l e R s m args below meth c H locs 0 0 (xQx below D sh ad tys A args s E V') (F0 m pc ls st0) := by
  have hA := xB.lt B G
  intro T hT X
  rcases vx_runS (As := As) (rest := rest) B.1 (hM H.size) cw ⟨xPreF_blind, fun U hU hW => ⟨rfl, by rw [hU], by rw [hU]; exact G.1, va_K.moved hW.alike B.2.2.2.1, F.at B G hU hW⟩⟩ rfl hn hsz hst (lv_room hW) hdg (by simpa using hcs) T hT X with ⟨v, st₀, t, T', L, h0, X', hL, e1, e2, hf, st⟩ | ⟨q, st₀, t, T', L, E', ce, h0, X', hL, e1, e2, ⟨rfl, hb, hF⟩, hce, hcv, hcl, st⟩
  · exact hf.elim
  · obtain ⟨k1, k2, k3⟩ := vx_keep h0 e1 G.2 (fun q _ h => hA q h) hA hL hF
    obtain ⟨u, a1, b1⟩ := x_outx (R := R) (below := below) (l := l) (e := e) (pc := pc) (ls := ls) (rest := rest) B hex G e1.symm hb k3 (by rw [e1]; exact hce) hcv hcl T' rfl (by simpa using X')
    exact ⟨u, st.trans a1, b1⟩
end XT
