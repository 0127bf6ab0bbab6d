/-! METHODS THAT MAKE THINGS: the world's shape moves -/
def sU (sh : xS) (i : Nat) (mk : (Nat → Int32) → va_E) : xS := fun j => if j = i then some mk else sh j
def aU (ad : Nat → Nat) (i q : Nat) : Nat → Nat := fun j => if j = i then q else ad j
def vU (V : xV) (i : Nat) (f : Nat → Int32) : xV := fun j => if j = i then f else V j
theorem sU_s (sh : xS) (i : Nat) (mk : (Nat → Int32) → va_E) : sU sh i mk i = some mk := if_pos rfl
theorem sU_n (sh : xS) {i j : Nat} (mk : (Nat → Int32) → va_E) (h : j ≠ i) : sU sh i mk j = sh j := if_neg h
theorem aU_s (ad : Nat → Nat) (i q : Nat) : aU ad i q i = q := if_pos rfl
theorem aU_n (ad : Nat → Nat) {i j : Nat} (q : Nat) (h : j ≠ i) : aU ad i q j = ad j := if_neg h
theorem vU_s (V : xV) (i : Nat) (f : Nat → Int32) : vU V i f i = f := if_pos rfl
theorem vU_n (V : xV) {i j : Nat} (f : Nat → Int32) (h : j ≠ i) : vU V i f j = V j := if_neg h
theorem sU_sU (sh : xS) (i : Nat) (a b : (Nat → Int32) → va_E) : sU (sU sh i a) i b = sU sh i b := by
  funext j
  unfold sU
  by_cases h : j = i
  · rw [if_pos h, if_pos h]
  · rw [if_neg h, if_neg h, if_neg h]
theorem xI.same {sh : xS} {ad : Nat → Nat} {i : Nat} {m0 mk : (Nat → Int32) → va_E} (h : xI sh ad) (hs : sh i = some m0) : xI (sU sh i mk) ad := by
  have d : ∀ (j : Nat) (mj : (Nat → Int32) → va_E), sU sh i mk j = some mj → ∃ m1, sh j = some m1 := by
    intro j mj hj
    by_cases e : j = i
    · exact ⟨m0, by rw [e]; exact hs⟩
    · rw [sU_n _ _ e] at hj; exact ⟨_, hj⟩
  intro a b ma mb ha hb hab
  obtain ⟨m1, h1⟩ := d a ma ha
  obtain ⟨m2, h2⟩ := d b mb hb
  exact h a b m1 m2 h1 h2 hab
theorem xI.new {sh : xS} {ad : Nat → Nat} {i q : Nat} {mk : (Nat → Int32) → va_E} (h : xI sh ad) (hq : ∀ (j : Nat) (mj : (Nat → Int32) → va_E), sh j = some mj → ad j ≠ q) : xI (sU sh i mk) (aU ad i q) := by
  intro a b ma mb ha hb hab
  by_cases ea : a = i
  · by_cases eb : b = i
    · rw [ea, eb]
    · rw [sU_n _ _ eb] at hb
      rw [ea, aU_s, aU_n _ _ eb] at hab
      exact absurd hab.symm (hq b mb hb)
  · rw [sU_n _ _ ea] at ha
    by_cases eb : b = i
    · rw [eb, aU_s, aU_n _ _ ea] at hab
      exact absurd hab (hq a ma ha)
    · rw [sU_n _ _ eb] at hb
      rw [aU_n _ _ ea, aU_n _ _ eb] at hab
      exact h a b ma mb ha hb hab
/-- what the makers of lists stand on, besides the tables: the empty array, the class object, .. -/
def xE (mi e0 : Nat) (A : Nat → Prop) (U : State) (H : Heap) : Prop :=
  va_AO "java/lang/Object" U ∧ va_Mi "[Ljava/lang/Object;" mi U ∧ va_Nw (.declares ⟨"java/lang/Object", "getClass", "()Ljava/lang/Class;"⟩) U ∧ va_Nw (.castable RX0 "java/lang/Object") U ∧ va_Z RJx4a65c "DEFAULTCAPACITY_EMPTY_ELEMENTDATA" "[Ljava/lang/Object;" (.ref e0) A U H ∧ ∃ fv : Nat → Value, va_T (.object "java/lang/Object") e0 0 fv A U H
theorem xE.moved {mi e0 : Nat} {A : Nat → Prop} {s U : State} {H H1 : Heap} (hW : s.WarmedH U.vm) (h : xE mi e0 A s H) (hq : ∀ a : Nat, a < H.size → ¬ A a → H1[a]? = H[a]?) : xE mi e0 A U H1 := by
  obtain ⟨h1, h2, h3, h4, h5, fv, h6⟩ := h
  exact ⟨h1.moved hW.alike, h2.moved hW.alike, va_Nw.warmAll (by decide +kernel) (by decide +kernel) hW h3, va_Nw.warmAll (by decide +kernel) (by decide +kernel) hW h4, va_Z.moved hW.alike (h5.kept hq), fv, va_T.moved hW.alike (h6.kept hq)⟩
theorem xE.narrow {mi e0 : Nat} {A B : Nat → Prop} {U : State} {H : Heap} (h : xE mi e0 A U H) (hAB : ∀ q, B q → A q) : xE mi e0 B U H := by
  obtain ⟨h1, h2, h3, h4, h5, fv, h6⟩ := h
  exact ⟨h1, h2, h3, h4, h5.narrow hAB, fv, h6.narrow hAB⟩
def xPreE (D : va_G) (sh : xS) (ad : Nat → Nat) (tys : List (ClassId × FieldType)) (mi e0 : Nat) (V : xV) (av : List Value) (sz : Nat) : Array Value → State → Prop := va_Pc av (fun U => U.heap.size = sz ∧ xW D sh ad V U.heap ∧ va_K D vwCl tys U ∧ xE mi e0 (xA sh ad sz) U U.heap)
def xPa (D : va_G) (sh : xS) (ad : Nat → Nat) (tys : List (ClassId × FieldType)) (sz : Nat) (Rp : Option Value → xS → (Nat → Nat) → xV → Prop) : Array Value → State → Outcome → State → Prop := fun _ st o t =>
  ∃ (v : Option Value) (sh' : xS) (ad' : Nat → Nat) (V' : xV), o = .returned v ∧ Rp v sh' ad' V' ∧ xI sh' ad' ∧ (∀ (i : Nat) (mk : (Nat → Int32) → va_E), sh' i = some mk → xA sh ad sz (ad' i)) ∧ xEnd D sh' ad' tys V' t ∧ va_F (xA sh ad sz) st t
/-- CONTRACT: called with av in the world (sh, ad, V) the method answers as Rp says, with the world that Rp tells of -/
def xMa (l : Launch) (y : MethodName) (ws : List Cond) (rm : Room) (D : va_G) (sh : xS) (ad : Nat → Nat) (tys : List (ClassId × FieldType)) (mi e0 : Nat) (V : xV) (av : List Value) (Rp : Option Value → xS → (Nat → Nat) → xV → Prop) : Prop :=
  ∀ sz : Nat, Met l y ws rm (xPreE D sh ad tys mi e0 V av sz) (xPa D sh ad tys sz Rp) rm.cells rm.slots (xA sh ad sz)
abbrev xQa (below : List Frame) (D : va_G) (sh : xS) (ad : Nat → Nat) (tys : List (ClassId × FieldType)) (sz : Nat) (A : Nat → Prop) (args : Array Value) (s : State) (mc ms : Nat) (Rp : Option Value → xS → (Nat → Nat) → xV → Prop) : State → Prop := MQ below (xPa D sh ad tys sz Rp) args s mc ms A
theorem xPreE_blind {D : va_G} {sh : xS} {ad : Nat → Nat} {tys : List (ClassId × FieldType)} {mi e0 : Nat} {V : xV} {av : List Value} {sz : Nat} : FrameBlind (xPreE D sh ad tys mi e0 V av sz) := fun a U g mk q => by
  obtain ⟨q0, q1, q2, q3, q4⟩ := q
  exact ⟨q0, q1, q2, va_K.moved (u := U) (U := U.calling g mk a) (Vm.Alike.refl U.vm) q3, q4.moved (U := U.calling g mk a) (State.WarmedH.refl U) (fun _ _ _ => rfl)⟩
theorem xOfa {l : Launch} {y : MethodName} {ws ws' : List Cond} {rm : Room} {D : va_G} {sh : xS} {ad : Nat → Nat} {tys : List (ClassId × FieldType)} {mi e0 : Nat} {V : xV} {av : List Value} {cc : ByteArray} {nL : Nat} {ret : Option FieldType} {own : String} {Rp : Option Value → xS → (Nat → Nat) → xV → Prop}
    (hy : plainName y.cls = true) (ho : y.cls = own) (hw : ws = Cond.code y cc nL ret :: ws') (hlen : (lg_sl av).length ≤ nL) (hI : xI sh ad)
    (body : ∀ (p : Program) (e : Env) (s : State) (m : MethodId) (args : Array Value) (below : List Frame) (meth : Method) (c : Code) (A : Nat → Prop) (ls : Array Slot), A = xA sh ad s.heap.size → meth.name = y.name → xB p s m args meth c cc nL ret ws own D sh ad A tys → xE mi e0 A s s.heap → xG D sh ad A s.heap V s.heap [] → lv_has ls nL (lv_args 0 av) → W p l e rm s m args below meth c s.heap [] 0 0 (xQa below D sh ad tys s.heap.size A args s rm.cells rm.slots Rp) (F0 m 0 ls [])) :
    xMa l y ws rm D sh ad tys mi e0 V av Rp := by
  intro sz
  refine Met.ofW (cc := cc) (maxL := nL) (ret := ret) hy hw ?_
  intro p e s m args below meth c s₁ B hml hv
  obtain ⟨rfl, hsz, hP, hK, hE⟩ := hv
  subst hsz
  rw [lg_entry_eq]
  refine body p e s m _ below meth c (xA sh ad s.heap.size) _ rfl (name_of_methodNamed B.named B.method).1 ⟨⟨B.exec, B.bytes, hml, ?_, atoms_spec (ws := ws) B.pre⟩, B.returns, B.notSynchronized, hK, hI, fun i mk hi => Or.inl ⟨i, mk, hi, rfl⟩, fun q hq => Or.inr hq⟩ hE ⟨hP, va_S.rf⟩ (lv_entry av hlen)
  rw [← ho]
  exact findClass_of_methodNamed B.named
section XAl
variable {p : Program} {l : Launch} {e : Env} {R : Room} {s : State} {m : MethodId} {args : Array Value} {below : List Frame} {meth : Method} {c : Code} {H : Heap} {locs : List Loc} {cells slots : Nat} {Q : State → Prop}
variable {cc : ByteArray} {nL : Nat} {ret : Option FieldType} {Ts : List Cond} {own : String} {D : va_G} {sh : xS} {ad : Nat → Nat} {A : Nat → Prop} {tys : List (ClassId × FieldType)} {mi e0 : Nat} {V : xV} {pc : Nat} {ls : Array Slot} {rest st0 : List Value}
theorem xB.same (B : xB p s m args meth c cc nL ret Ts own D sh ad A tys) {i : Nat} {m0 mk : (Nat → Int32) → va_E} (hs : sh i = some m0) : xB p s m args meth c cc nL ret Ts own D (sU sh i mk) ad A tys := by
  obtain ⟨b1, b2, b3, b4, b5, b6, b7⟩ := B
  refine ⟨b1, b2, b3, b4, b5.same hs, fun j mj hj => ?_, b7⟩
  by_cases ej : j = i
  · rw [ej]; exact b6 i m0 hs
  · rw [sU_n _ _ ej] at hj; exact b6 j mj hj
theorem xB.new (B : xB p s m args meth c cc nL ret Ts own D sh ad A tys) (G : xG D sh ad A s.heap V H locs) {i : Nat} {mk : (Nat → Int32) → va_E} : xB p s m args meth c cc nL ret Ts own D (sU sh i mk) (aU ad i H.size) A tys := by
  obtain ⟨b1, b2, b3, b4, b5, b6, b7⟩ := B
  refine ⟨b1, b2, b3, b4, b5.new (fun j mj hj => Nat.ne_of_lt (G.1 j mj hj).lt), fun j mj hj => ?_, b7⟩
  by_cases ej : j = i
  · rw [ej, aU_s]; exact b7 _ G.2.1
  · rw [sU_n _ _ ej] at hj; rw [aU_n _ _ ej]; exact b6 j mj hj
theorem xG.new (G : xG D sh ad A s.heap V H locs) {i : Nat} {mk : (Nat → Int32) → va_E} {f : Nat → Int32} {H1 : Heap} (z1 : H1.size = H.size + 1) (o1 : ∀ q : Nat, q < H.size → H1[q]? = H[q]?) (h1 : va_at D vwCl (H.size, mk f) H1) : xG D (sU sh i mk) (aU ad i H.size) A s.heap (vU V i f) H1 locs := by
  refine ⟨fun j mj hj => ?_, Nat.le_trans G.2.1 (by omega), fun q h1 h2 => (o1 q (Nat.lt_of_lt_of_le h1 G.2.1)).trans (G.2.2.1 q h1 h2), G.2.2.2⟩
  by_cases ej : j = i
  · subst ej
    rw [sU_s] at hj
    cases hj
    rw [aU_s, vU_s]
    exact h1
  · rw [sU_n _ _ ej] at hj
    rw [aU_n _ _ ej, vU_n _ _ ej]
    exact (G.1 j mj hj).kept (o1 _ (G.1 j mj hj).lt)
/-- other worlds over the same cells -/
theorem xG.re {sh' : xS} {ad' : Nat → Nat} {V' : xV} (G : xG D sh ad A s.heap V H locs) (h : ∀ (i : Nat) (mk : (Nat → Int32) → va_E), sh' i = some mk → ∃ (j : Nat) (mj : (Nat → Int32) → va_E), sh j = some mj ∧ ad j = ad' i ∧ mj (V j) = mk (V' i)) : xG D sh' ad' A s.heap V' H locs := by
  refine ⟨fun i mk hi => ?_, G.2⟩
  obtain ⟨j, mj, h1, h2, h3⟩ := h i mk hi
  rw [← h2, ← h3]
  exact G.1 j mj h1
theorem xB.re {sh' : xS} {ad' : Nat → Nat} (B : xB p s m args meth c cc nL ret Ts own D sh ad A tys) (h : ∀ (i : Nat) (mk : (Nat → Int32) → va_E), sh' i = some mk → ∃ (j : Nat) (mj : (Nat → Int32) → va_E), sh j = some mj ∧ ad j = ad' i) (hI : xI sh' ad') : xB p s m args meth c cc nL ret Ts own D sh' ad' A tys := by
  obtain ⟨b1, b2, b3, b4, b5, b6, b7⟩ := B
  refine ⟨b1, b2, b3, b4, hI, fun i mk hi => ?_, b7⟩
  obtain ⟨j, mj, h1, h2⟩ := h i mk hi
  rw [← h2]; exact b6 j mj h1
theorem xG.eqV {V' : xV} (G : xG D sh ad A s.heap V H locs) (h : ∀ i, V i = V' i) : xG D sh ad A s.heap V' H locs := by rw [← (funext h : V = V')]; exact G
theorem x_vU (V : xV) (i k : Nat) (x : Int32) : xu V i k x = vU V i (upd (V i) k x) := by
  funext j
  by_cases h : j = i
  · subst h; rw [vU_s, xu_same]
  · rw [vU_n _ _ h, xu_ne _ _ _ h]
/-- a field of a reference, or one that is final -/
theorem x_putR (B : xB p s m args meth c cc nL ret Ts own D sh ad A tys) (G : xG D sh ad A s.heap V H locs) (i : Nat) {C ref : String} {T : u_T} {N ci index : Nat} {fs fs' : (Nat → Int32) → List Value} (hs : sh i = some (fun f => .inr (ci, fs f))) (hc : vwCl[ci]? = some (C, T, N)) (hin : ∀ w ∈ u_ws C T N, w ∈ Ts)
    (ty0 : Nat → FieldType) (hty : ∀ k, k < N → parseFieldDescriptor (T k).2.2.1 = some (ty0 k)) (hnm : ∀ a, a < N → ∀ b, b < N → a ≠ b → (T a).2.1 ≠ (T b).2.1) (k : Nat) (hk : k < N)
    (hlink : Cond.fieldLink own index ref (T k).2.1 (T k).2.2.1 ∈ Ts) (hsame : ∀ x, s.fieldFound? (T k).1 (T k).2.1 (T k).2.2.1 = some x → s.fieldFound? ref (T k).2.1 (T k).2.2.1 = some x) (hfin : (T k).2.2.2 = false ∨ ((T k).2.2.2 = true ∧ meth.name = "<init>" ∧ (T k).1 = own)) {ty : FieldType} {v : Value} (hd : parseFieldDescriptor (T k).2.2.1 = some ty) (hn : narrow ty v = v) (hfit : fits ty v = true) {V' : xV} (hV : ∀ j, j ≠ i → V' j = V j) (hset : (fs (V i)).set k v = fs' (V' i)) (hl : k < (fs (V i)).length)
    (hdg : decode cc pc = .ok (.putfield index, 3)) (kk : ∀ (H1 : Heap) (locs1 : List Loc), xB p s m args meth c cc nL ret Ts own D (sU sh i (fun f => .inr (ci, fs' f))) ad A tys → xG D (sU sh i (fun f => .inr (ci, fs' f))) ad A s.heap V' H1 locs1 → W p l e R s m args below meth c H1 locs1 cells slots Q (F0 m (pc + 3) ls rest)) : W p l e R s m args below meth c H locs cells slots Q (F0 m pc ls (v :: .ref (ad i) :: rest)) := by
  have B' := B.same (mk := fun f => .inr (ci, fs' f)) hs
  obtain ⟨⟨hx, hb, hml, hown, hts⟩, -, -, hK, hI, hA, -⟩ := B
  have hap := va_apart (own := own) hts hin ty0 hty hnm hK hc
  obtain ⟨r, h1, cell, q1, q2, q3, q4⟩ := G.1 i _ hs
  have hr : r = (C, T, N) := Option.some.inj (h1.symm.trans hc)
  subst hr
  obtain ⟨hS, hfc, kC, hkC, hkind⟩ := hK.1 ci _ hc
  obtain ⟨cf, kf, fi, f, hi, hsl⟩ := hS k hk
  have hlay := hts _ (hin _ (u_in_lay hk))
  unfold u_lay at hlay
  have hst := (u_facts hfc hkC (u_lays hts hin hk) hi).1
  have fin : ∀ H' : Heap, H'[ad i]? = some { cell with slots := cell.slots.setIfInBounds (D.2 ci k) v } → (∀ q : Nat, q ≠ ad i → H'[q]? = H[q]?) → xW D (sU sh i (fun f => .inr (ci, fs' f))) ad V' H' := by
    intro H' e1 e3 j mj hj
    by_cases ej : j = i
    · subst ej
      rw [sU_s] at hj
      cases hj
      refine ⟨_, hc, t_OB.to (V := updV (vp_V (fs (V j))) k v) ⟨_, e1, q2, q3, t_set q4 hap hk _⟩ (fun j _ => ?_)⟩
      rw [vp_updV_set hl, hset]
    · rw [sU_n _ _ ej] at hj
      rw [hV j ej]
      exact (G.1 j mj hj).kept (e3 _ (fun z => ej (hI j i _ _ hj hs z)))
  rcases hfin with hf | ⟨hf, hin2, hdecl⟩
  · rw [if_neg (by rw [hf]; decide)] at hlay
    have h6 := u_fits hfc hkC hkind (Or.inl hlay) hi hd hn hfit
    refine W.putK hx hb (f := f) ⟨hown, hts _ hlink, ⟨_, _, _, hsame _ hi⟩, hst⟩ (by rw [q2]; exact u_store hfc hkC hkind hlay hi hd hn hfit) q1 q3 (by rw [hsl]; exact k2_hasslot (q4 k hk)) rfl rfl hdg fun H' e1 e2 e3 => ?_
    rw [hsl] at e1 ⊢
    exact kk H' _ B' ⟨fin H' e1 e3, G.2.put e2 e3 (hA i _ hs)⟩
  · rw [if_pos hf] at hlay
    have hcf : m.cls = cf := by
      obtain ⟨_, _, c', _, _, _, -, -, hf', -, -, -, hown2, -⟩ := Cond.laysFinal_spec hlay
      have e1 : c' = cf := by have := hi.symm.trans hf'; simp at this; exact this.1.symm
      rw [hdecl] at hown2
      rw [← e1]; exact Option.some.inj (hown.symm.trans hown2)
    have h6 := u_fits hfc hkC hkind (Or.inr hlay) hi hd hn hfit
    refine W.putFinK hx hb hown (hts _ hlink) (hsame _ hi) hst hcf hin2 (by rw [q2]; exact h6) q1 q3 (by rw [hsl]; exact k2_hasslot (q4 k hk)) rfl rfl hdg fun H' e1 e2 e3 => ?_
    rw [hsl] at e1 ⊢
    exact kk H' _ B' ⟨fin H' e1 e3, G.2.put e2 e3 (hA i _ hs)⟩
/-- a new object, named i -/
theorem x_new (B : xB p s m args meth c cc nL ret Ts own D sh ad A tys) (G : xG D sh ad A s.heap V H locs) (i : Nat) {C : String} {T : u_T} {N ci index : Nat} (fs : (Nat → Int32) → List Value) (hc : vwCl[ci]? = some (C, T, N)) (hin : ∀ w ∈ u_ws C T N, w ∈ Ts) (ty : Nat → FieldType) (hty : ∀ k, k < N → parseFieldDescriptor (T k).2.2.1 = some (ty k))
    (hcl : Cond.classLink own index C ∈ Ts) (hinst : Cond.instantiable C N ∈ Ts) (hini : Cond.initialized C ∈ Ts) (hfs : ∀ j, j < N → defaultValue (ty j) = vp_V (fs (fun _ => 0)) j) (hcells : cells + 1 ≤ R.cells) (hslots : slots + N ≤ R.slots) (hdg : decode cc pc = .ok (.new index, 3))
    (kk : ∀ (q : Nat) (H1 : Heap), xB p s m args meth c cc nL ret Ts own D (sU sh i (fun f => .inr (ci, fs f))) (aU ad i q) A tys → xG D (sU sh i (fun f => .inr (ci, fs f))) (aU ad i q) A s.heap (vU V i (fun _ => 0)) H1 locs → W p l e R s m args below meth c H1 locs (cells + 1) (slots + N) Q (F0 m (pc + 3) ls (.ref q :: rest))) : W p l e R s m args below meth c H locs cells slots Q (F0 m pc ls rest) := by
  have hKn := B.2.2.2.1.1 ci _ hc
  refine W.newcK B.1.1 B.1.2.1 B.1.2.2.2.1 (B.1.2.2.2.2 _ hcl) (B.1.2.2.2.2 _ hinst) (B.1.2.2.2.2 _ hini) rfl hdg hcells hslots hKn.2.1 rfl fun H1 kC hkC e1 z1 o1 => ?_
  exact kk H.size H1 (B.new G) (G.new z1 o1 ⟨_, hc, (u_born ty B.1.2.2.2.2 hin hKn hkC e1 hty).to hfs⟩)
/-- a new array of ints or booleans, named i -/
theorem x_newa (B : xB p s m args meth c cc nL ret Ts own D sh ad A tys) (G : xG D sh ad A s.heap V H locs) (i : Nat) (ty : FieldType) {atype : ArrayType} (hty : newarray.typeOf atype = ty) (hdv : defaultValue ty = .int 0) (harr : Cond.arrayClass (newarray.typeOf atype) ∈ Ts) {cA : ClassId} (t0 : Nat) (ht : tys[t0]? = some (cA, ty)) (hnm : ∀ U : State, ∀ c1 : ClassId, va_RA U c1 ty → U.vm.findClass ("[" ++ ty.toString) = some c1) {n : Int32} {N : Nat}
    (hn : ¬ n < 0) (hN : n.toNatClampNeg = N) (hbytes : N * componentBytes ty ≤ 536870912) (hcells : cells + 1 ≤ R.cells) (hslots : slots + N ≤ R.slots) (hdg : decode cc pc = .ok (.newarray atype, 2))
    (kk : ∀ (q : Nat) (H1 : Heap), xB p s m args meth c cc nL ret Ts own D (sU sh i (fun f => .inl (cA, N, .inl f))) (aU ad i q) A tys → xG D (sU sh i (fun f => .inl (cA, N, .inl f))) (aU ad i q) A s.heap (vU V i (fun _ => 0)) H1 locs → W p l e R s m args below meth c H1 locs (cells + 1) (slots + N) Q (F0 m (pc + 2) ls (.ref q :: rest))) : W p l e R s m args below meth c H locs cells slots Q (F0 m pc ls (.int n :: rest)) := by
  subst hty
  refine va_newaK B.1.1 B.1.2.1 (B.1.2.2.2.2 _ harr) rfl hdg rfl hn hN hbytes hcells hslots rfl fun H1 cB e1 z1 o1 hAr hNm => ?_
  have hcc : cA = cB := Option.some.inj ((hnm s cA (B.2.2.2.1.2 t0 _ ht).2).symm.trans hNm)
  subst hcc
  refine kk H.size H1 (B.new G) (G.new z1 o1 ?_)
  show H1[H.size]? = some (vp_cell _ _)
  rw [vp_cell_i, e1, hdv]
/-- a new array of Objects, named i -/
theorem x_newq (B : xB p s m args meth c cc nL ret Ts own D sh ad A tys) (G : xG D sh ad A s.heap V H locs) (i : Nat) {cO : ClassId} (t0 : Nat) (ht : tys[t0]? = some (cO, .object "java/lang/Object")) {index : Nat} (hover : va_AO "java/lang/Object" s) (hclink : Cond.classLink own index "java/lang/Object" ∈ Ts) {n : Int32} {N : Nat}
    (hn : ¬ n < 0) (hN : n.toNatClampNeg = N) (hbytes : N * 4 ≤ 536870912) (hcells : cells + 1 ≤ R.cells) (hslots : slots + N ≤ R.slots) (hdg : decode cc pc = .ok (.anewarray index, 3))
    (kk : ∀ (q : Nat) (H1 : Heap), xB p s m args meth c cc nL ret Ts own D (sU sh i (fun _ => .inl (cO, N, .inr (.inr (.inr (.inr (fun _ => none))))))) (aU ad i q) A tys → xG D (sU sh i (fun _ => .inl (cO, N, .inr (.inr (.inr (.inr (fun _ => none))))))) (aU ad i q) A s.heap (vU V i (fun _ => 0)) H1 locs → W p l e R s m args below meth c H1 locs (cells + 1) (slots + N) Q (F0 m (pc + 3) ls (.ref q :: rest))) : W p l e R s m args below meth c H locs cells slots Q (F0 m pc ls (.int n :: rest)) := by
  subst hN
  obtain ⟨-, kO, compO, g1, g2, g3, g4⟩ := B.2.2.2.1.2 t0 _ ht
  refine W.anew B.1.1 B.1.2.1 B.1.2.2.2.1 (B.1.2.2.2.2 _ hclink) (va_AO.use hover) rfl hdg rfl hn hbytes hcells hslots fun cA kA comp f1 f2 f3 f4 => ?_
  have hcc : cO = cA := Option.some.inj (g4.symm.trans f1)
  subst hcc
  generalize hH1 : H.push ({ cls := cO, slots := Array.replicate n.toNatClampNeg .null, vm := .none } : Cell) = H1
  have z1 : H1.size = H.size + 1 := by rw [← hH1, Array.size_push]
  have e1 : H1[H.size]? = some (arrV cO n.toNatClampNeg (fun _ => .null)) := by rw [← hH1, Array.getElem?_push_size, ← arrV_new]
  have o1 : ∀ q : Nat, q < H.size → H1[q]? = H[q]? := fun q hq => by rw [← hH1, Array.getElem?_push, if_neg (Nat.ne_of_lt hq)]
  refine kk H.size H1 (B.new G) (G.new z1 o1 ?_)
  show H1[H.size]? = some (vp_cell _ _)
  rw [vp_cell_q]
  exact e1
end XAl
