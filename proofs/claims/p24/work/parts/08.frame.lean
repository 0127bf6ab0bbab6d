/-! THE WORLD BY LOGICAL NAMES. sh i = some mk: at the logical name i there is a thing, mk of its numbers; ad i: where; V i k: the k-th number of the thing i (an element of an int array, an int field of an object). -/
abbrev xS : Type := Nat → Option ((Nat → Int32) → va_E)
abbrev xV : Type := Nat → Nat → Int32
def xu (V : xV) (i k : Nat) (x : Int32) : xV := fun j => if j = i then upd (V i) k x else V j
theorem xu_same (V : xV) (i k : Nat) (x : Int32) : xu V i k x i = upd (V i) k x := by simp [xu]
theorem xu_ne (V : xV) {i j : Nat} (k : Nat) (x : Int32) (h : j ≠ i) : xu V i k x j = V j := by simp [xu, h]
def xW (D : va_G) (sh : xS) (ad : Nat → Nat) (V : xV) (H : Heap) : Prop := ∀ (i : Nat) (mk : (Nat → Int32) → va_E), sh i = some mk → va_at D vwCl (ad i, mk (V i)) H
def xI (sh : xS) (ad : Nat → Nat) : Prop := ∀ (i j : Nat) (mi mj : (Nat → Int32) → va_E), sh i = some mi → sh j = some mj → ad i = ad j → i = j
def xA (sh : xS) (ad : Nat → Nat) (sz : Nat) : Nat → Prop := fun q => (∃ (i : Nat) (mk : (Nat → Int32) → va_E), sh i = some mk ∧ ad i = q) ∨ sz ≤ q
theorem xP1 {D : va_G} {cl : List vw_C} {q : Nat × va_E} {H : Heap} (h : va_at D cl q H) : va_P D cl [q] H := by
  intro k r hr
  match k, hr with
  | 0, hr => cases hr; exact h
  | k + 1, hr => simp at hr
theorem xW.keep {D : va_G} {sh : xS} {ad : Nat → Nat} {V : xV} {H H1 : Heap} (h : xW D sh ad V H) (hq : ∀ (i : Nat) (mk : (Nat → Int32) → va_E), sh i = some mk → H1[ad i]? = H[ad i]?) : xW D sh ad V H1 := fun i mk hi => (h i mk hi).kept (hq i mk hi)
theorem xW.put {D : va_G} {sh : xS} {ad : Nat → Nat} {V : xV} {H H1 : Heap} (h : xW D sh ad V H) (hI : xI sh ad) {i k : Nat} {x : Int32} {mk : (Nat → Int32) → va_E} (hs : sh i = some mk)
    (h1 : va_at D vwCl (ad i, mk (upd (V i) k x)) H1) (oq : ∀ q : Nat, q ≠ ad i → H1[q]? = H[q]?) : xW D sh ad (xu V i k x) H1 := by
  intro j mj hj
  by_cases e : j = i
  · subst e
    rw [hs] at hj
    cases hj
    rw [xu_same]
    exact h1
  · rw [xu_ne V k x e]
    exact (h j mj hj).kept (oq _ (fun z => e (hI j i mj mk hj hs z)))
/-- what is fixed in a method's body -/
def xB (p : Program) (s : State) (m : MethodId) (args : Array Value) (meth : Method) (c : Code) (cc : ByteArray) (nL : Nat) (ret : Option FieldType) (Ts : List Cond) (own : String) (D : va_G) (sh : xS) (ad : Nat → Nat) (A : Nat → Prop) (tys : List (ClassId × FieldType)) : Prop :=
  CallFix p m c cc nL s args Ts own ∧ meth.sig.returnType = ret ∧ meth.locks = false ∧ va_K D vwCl tys s ∧ xI sh ad ∧ (∀ (i : Nat) (mk : (Nat → Int32) → va_E), sh i = some mk → A (ad i)) ∧ (∀ q : Nat, s.heap.size ≤ q → A q)
/-- what moves: the world, and what has been written -/
def xG (D : va_G) (sh : xS) (ad : Nat → Nat) (A : Nat → Prop) (H0 : Heap) (V : xV) (H : Heap) (locs : List Loc) : Prop := xW D sh ad V H ∧ va_S A H0 H locs
def xPre (D : va_G) (sh : xS) (ad : Nat → Nat) (tys : List (ClassId × FieldType)) (V : xV) (av : List Value) (sz : Nat) : Array Value → State → Prop := va_Pc av (fun U => U.heap.size = sz ∧ xW D sh ad V U.heap ∧ va_K D vwCl tys U)
def xEnd (D : va_G) (sh : xS) (ad : Nat → Nat) (tys : List (ClassId × FieldType)) (u : xV) (t : State) : Prop := xW D sh ad u t.heap ∧ va_K D vwCl tys t
/-- CONTRACTS: called with av in the world V the method answers r, and the world is V' then; nothing else has changed, nothing is new -/
def xMi (l : Launch) (y : MethodName) (ws : List Cond) (rm : Room) (D : va_G) (sh : xS) (ad : Nat → Nat) (tys : List (ClassId × FieldType)) (V : xV) (av : List Value) (r : Int32) (V' : xV) : Prop :=
  ∀ sz : Nat, Met l y ws rm (xPre D sh ad tys V av sz) (va_Qi (fun r' u => r' = r ∧ u = V') (xEnd D sh ad tys) (xA sh ad sz)) 0 0 (xA sh ad sz)
def xMv (l : Launch) (y : MethodName) (ws : List Cond) (rm : Room) (D : va_G) (sh : xS) (ad : Nat → Nat) (tys : List (ClassId × FieldType)) (V : xV) (av : List Value) (V' : xV) : Prop :=
  ∀ sz : Nat, Met l y ws rm (xPre D sh ad tys V av sz) (va_Qv (fun u => u = V') (xEnd D sh ad tys) (xA sh ad sz)) 0 0 (xA sh ad sz)
theorem xPre_blind {D : va_G} {sh : xS} {ad : Nat → Nat} {tys : List (ClassId × FieldType)} {V : xV} {av : List Value} {sz : Nat} : FrameBlind (xPre D sh ad tys V av sz) := fun a U g mk q => by
  obtain ⟨q0, q1, q2, q3⟩ := q
  exact ⟨q0, q1, q2, va_K.moved (u := U) (U := U.calling g mk a) (Vm.Alike.refl U.vm) q3⟩
theorem xOf {l : Launch} {y : MethodName} {ws ws' : List Cond} {rm : Room} {D : va_G} {sh : xS} {ad : Nat → Nat} {tys : List (ClassId × FieldType)} {V : xV} {av : List Value} {cc : ByteArray} {nL : Nat} {ret : Option FieldType} {own : String} {Qc : (Nat → Prop) → Array Value → State → Outcome → State → Prop} {mc ms : Nat}
    (hy : plainName y.cls = true) (ho : y.cls = own) (hw : ws = Cond.code y cc nL ret :: ws') (hlen : (lg_sl av).length ≤ nL) (hI : xI sh ad)
    (body : ∀ (p : Program) (e : Env) (s : State) (m : MethodId) (below : List Frame) (meth : Method) (c : Code) (A : Nat → Prop) (ls : Array Slot), meth.name = y.name → xB p s m av.toArray meth c cc nL ret ws own D sh ad A tys → xG D sh ad A s.heap V s.heap [] → lv_has ls nL (lv_args 0 av) → W p l e rm s m av.toArray below meth c s.heap [] 0 0 (MQ below (Qc A) av.toArray s mc ms A) (F0 m 0 ls [])) :
    ∀ sz : Nat, Met l y ws rm (xPre D sh ad tys V av sz) (Qc (xA sh ad sz)) mc ms (xA sh ad sz) := by
  intro sz
  refine Met.ofW (cc := cc) (maxL := nL) (ret := ret) hy hw ?_
  intro p e s m args below meth c s₁ B hml hv
  obtain ⟨rfl, hsz, hP, hK⟩ := hv
  subst hsz
  rw [lg_entry_eq]
  refine body p e s m below meth c (xA sh ad s.heap.size) _ (name_of_methodNamed B.named B.method).1 ⟨⟨B.exec, B.bytes, hml, ?_, atoms_spec (ws := ws) B.pre⟩, B.returns, B.notSynchronized, hK, hI, fun i mk hi => Or.inl ⟨i, mk, hi, rfl⟩, fun q hq => Or.inr hq⟩ ⟨hP, va_S.rf⟩ (lv_entry av hlen)
  rw [← ho]
  exact findClass_of_methodNamed B.named
theorem xB.lt {p : Program} {s : State} {m : MethodId} {args : Array Value} {meth : Method} {c : Code} {cc : ByteArray} {nL : Nat} {ret : Option FieldType} {Ts : List Cond} {own : String} {D : va_G} {sh : xS} {ad : Nat → Nat} {A : Nat → Prop} {tys : List (ClassId × FieldType)} {V : xV} {H : Heap} {locs : List Loc}
    (B : xB p s m args meth c cc nL ret Ts own D sh ad A tys) (G : xG D sh ad A s.heap V H locs) : ∀ q : Nat, xA sh ad H.size q → A q := by
  intro q hq
  rcases hq with ⟨i, mk, hi, rfl⟩ | hq
  · exact B.2.2.2.2.2.1 i mk hi
  · exact B.2.2.2.2.2.2 q (Nat.le_trans G.2.1 hq)
section XR
variable {p : Program} {l : Launch} {e : Env} {R : Room} {s : State} {m : MethodId} {args : Array Value} {below : List Frame} {meth : Method} {c : Code} {H : Heap} {locs : List Loc} {cells slots : Nat} {Q : State → Prop}
variable {cc : ByteArray} {nL : Nat} {ret : Option FieldType} {Ts : List Cond} {own : String} {D : va_G} {sh : xS} {ad : Nat → Nat} {A : Nat → Prop} {tys : List (ClassId × FieldType)} {V : xV} {pc : Nat} {ls : Array Slot} {rest st0 : List Value}
/-- the top of the stack under another name -/
theorem x_top {x y : Int32} (h : x = y) (k : W p l e R s m args below meth c H locs cells slots Q (F0 m pc ls (.int y :: rest))) : W p l e R s m args below meth c H locs cells slots Q (F0 m pc ls (.int x :: rest)) := by
  rw [h]; exact k
theorem x_get (B : xB p s m args meth c cc nL ret Ts own D sh ad A tys) (G : xG D sh ad A s.heap V H locs) (i : Nat) {C ref : String} {T : u_T} {N ci index : Nat} {fs : (Nat → Int32) → List Value} (hs : sh i = some (fun f => .inr (ci, fs f))) (hc : vwCl[ci]? = some (C, T, N)) (hin : ∀ w ∈ u_ws C T N, w ∈ Ts) (k : Nat) (hk : k < N)
    (hlink : Cond.fieldLink own index ref (T k).2.1 (T k).2.2.1 ∈ Ts) (hsame : ∀ x, s.fieldFound? (T k).1 (T k).2.1 (T k).2.2.1 = some x → s.fieldFound? ref (T k).2.1 (T k).2.2.1 = some x) {v : Value} (hv : (fs (V i))[k]? = some v) (hdg : decode cc pc = .ok (.getfield index, 3))
    (kk : W p l e R s m args below meth c H locs cells slots Q (F0 m (pc + 3) ls (v :: rest))) : W p l e R s m args below meth c H locs cells slots Q (F0 m pc ls (.ref (ad i) :: rest)) := by
  obtain ⟨⟨hx, hb, hml, hown, hts⟩, -, -, hK, -⟩ := B
  exact va_get (D := D) (cl := vwCl) (ws := [(ad i, .inr (ci, fs (V i)))]) hx hb hts hin hown hK (xP1 (G.1 i _ hs)) 0 rfl hc k hk (hts _ hlink) hsame hv hdg kk
theorem x_put (B : xB p s m args meth c cc nL ret Ts own D sh ad A tys) (G : xG D sh ad A s.heap V H locs) (i : Nat) {C ref : String} {T : u_T} {N ci index : Nat} {fs : (Nat → Int32) → List Value} (hs : sh i = some (fun f => .inr (ci, fs f))) (hc : vwCl[ci]? = some (C, T, N)) (hin : ∀ w ∈ u_ws C T N, w ∈ Ts)
    (ty0 : Nat → FieldType) (hty : ∀ k, k < N → parseFieldDescriptor (T k).2.2.1 = some (ty0 k)) (hnm : ∀ a, a < N → ∀ b, b < N → a ≠ b → (T a).2.1 ≠ (T b).2.1) (k : Nat) (hk : k < N)
    (hlink : Cond.fieldLink own index ref (T k).2.1 (T k).2.2.1 ∈ Ts) (hsame : ∀ x, s.fieldFound? (T k).1 (T k).2.1 (T k).2.2.1 = some x → s.fieldFound? ref (T k).2.1 (T k).2.2.1 = some x) (hfin : (T k).2.2.2 = false) (hd : parseFieldDescriptor (T k).2.2.1 = some .int) {x : Int32} (hset : (fs (V i)).set k (.int x) = fs (upd (V i) k x)) (hl : k < (fs (V i)).length)
    (hdg : decode cc pc = .ok (.putfield index, 3)) (kk : ∀ (H1 : Heap) (locs1 : List Loc), xG D sh ad A s.heap (xu V i k x) H1 locs1 → W p l e R s m args below meth c H1 locs1 cells slots Q (F0 m (pc + 3) ls rest)) : W p l e R s m args below meth c H locs cells slots Q (F0 m pc ls (.int x :: .ref (ad i) :: rest)) := by
  obtain ⟨⟨hx, hb, hml, hown, hts⟩, -, -, hK, hI, hA, -⟩ := B
  have hap := va_apart (own := own) hts hin ty0 hty hnm hK hc
  obtain ⟨r, h1, cell, q1, q2, q3, q4⟩ := G.1 i _ hs
  have hr : r = (C, T, N) := Option.some.inj (h1.symm.trans hc)
  subst hr
  obtain ⟨hS, hfc, kC, hkC, hkind⟩ := hK.1 ci _ hc
  obtain ⟨cf, kf, fi, f, hi, hsl⟩ := hS k hk
  have hlay := hts _ (hin _ (u_in_lay hk))
  unfold u_lay at hlay
  rw [if_neg (by rw [hfin]; decide)] at hlay
  have hst := (u_facts hfc hkC (u_lays hts hin hk) hi).1
  have h6 := u_store hfc hkC hkind hlay hi hd (v := .int x) rfl rfl
  refine W.putK hx hb (f := f) ⟨hown, hts _ hlink, ⟨_, _, _, hsame _ hi⟩, hst⟩ (by rw [q2]; exact h6) q1 q3 (by rw [hsl]; exact k2_hasslot (q4 k hk)) rfl rfl hdg fun H' e1 e2 e3 => ?_
  rw [hsl] at e1 ⊢
  refine kk H' _ ⟨xW.put G.1 hI hs ?_ e3, G.2.put e2 e3 (hA i _ hs)⟩
  refine ⟨_, hc, t_OB.to (V := updV (vp_V (fs (V i))) k (.int x)) ⟨_, e1, q2, q3, t_set q4 hap hk _⟩ (fun j _ => ?_)⟩
  rw [vp_updV_set hl, hset]
theorem x_ald (B : xB p s m args meth c cc nL ret Ts own D sh ad A tys) (G : xG D sh ad A s.heap V H locs) (i : Nat) {cA : ClassId} {n : Nat} (hs : sh i = some (fun f => .inl (cA, n, .inl f))) (t0 : Nat) (ht : tys[t0]? = some (cA, .int)) (j : Nat) (hj : j < n) {x : Int32} (hxj : x = nI j) (hn : n < 2 ^ 31) (hdg : decode cc pc = .ok (.iaload, 1))
    (kk : W p l e R s m args below meth c H locs cells slots Q (F0 m (pc + 1) ls (.int (V i j) :: rest))) : W p l e R s m args below meth c H locs cells slots Q (F0 m pc ls (.int x :: .ref (ad i) :: rest)) := by
  obtain ⟨⟨hx, hb, hml, hown, hts⟩, -, -, hK, -⟩ := B
  subst hxj
  refine va_iald (D := D) (cl := vwCl) (ws := [(ad i, .inl (cA, n, .inl (V i)))]) hx hb hK (xP1 (G.1 i _ hs)) 0 t0 rfl ht (vp_in_nI hj hn) hdg ?_
  rw [nI_clamp (Nat.lt_trans hj hn)]
  exact kk
theorem x_zald (B : xB p s m args meth c cc nL ret Ts own D sh ad A tys) (G : xG D sh ad A s.heap V H locs) (i : Nat) {cA : ClassId} {n : Nat} (hs : sh i = some (fun f => .inl (cA, n, .inl f))) (t0 : Nat) (ht : tys[t0]? = some (cA, .boolean)) (j : Nat) (hj : j < n) {x : Int32} (hxj : x = nI j) (hn : n < 2 ^ 31) (hdg : decode cc pc = .ok (.baload, 1))
    (kk : W p l e R s m args below meth c H locs cells slots Q (F0 m (pc + 1) ls (.int (V i j) :: rest))) : W p l e R s m args below meth c H locs cells slots Q (F0 m pc ls (.int x :: .ref (ad i) :: rest)) := by
  obtain ⟨⟨hx, hb, hml, hown, hts⟩, -, -, hK, -⟩ := B
  subst hxj
  refine va_zald (D := D) (cl := vwCl) (ws := [(ad i, .inl (cA, n, .inl (V i)))]) hx hb hK (xP1 (G.1 i _ hs)) 0 t0 rfl ht (vp_in_nI hj hn) hdg ?_
  rw [nI_clamp (Nat.lt_trans hj hn)]
  exact kk
theorem x_cell {cA : ClassId} {n j : Nat} (f : Nat → Int32) (x : Int32) : (vp_cell cA (n, .inl f)).setSlot j (.int x) = vp_cell cA (n, .inl (upd f j x)) := by
  rw [vp_cell_i, vp_cell_i, arrV_store]
  congr 1
  funext q
  by_cases hq : q = j
  · subst hq
    simp [updV, upd]
  · simp [updV, upd, hq]
theorem x_ast (B : xB p s m args meth c cc nL ret Ts own D sh ad A tys) (G : xG D sh ad A s.heap V H locs) (i : Nat) {cA : ClassId} {n : Nat} (hs : sh i = some (fun f => .inl (cA, n, .inl f))) (t0 : Nat) (ht : tys[t0]? = some (cA, .int)) (j : Nat) (hj : j < n) {x v : Int32} (hxj : x = nI j) (hn : n < 2 ^ 31) (hdg : decode cc pc = .ok (.iastore, 1))
    (kk : ∀ (H1 : Heap) (locs1 : List Loc), xG D sh ad A s.heap (xu V i j v) H1 locs1 → W p l e R s m args below meth c H1 locs1 cells slots Q (F0 m (pc + 1) ls rest)) : W p l e R s m args below meth c H locs cells slots Q (F0 m pc ls (.int v :: .int x :: .ref (ad i) :: rest)) := by
  obtain ⟨⟨hx, hb, hml, hown, hts⟩, -, -, hK, hI, hA, -⟩ := B
  subst hxj
  refine W.iast hx hb (G.1 i _ hs) ((hK.2 t0 _ ht).1 n (fun j => .int (V i j))) (fun q => by cases q) (by show ¬ (_ ∨ (arrV _ _ _).slots.size ≤ _); rw [arrV_size]; exact vp_in_nI hj hn) rfl rfl hdg fun H1 e1 z oq => ?_
  rw [nI_clamp (Nat.lt_trans hj hn)] at e1
  refine kk H1 _ ⟨xW.put G.1 hI hs ?_ oq, G.2.put z oq (hA i _ hs)⟩
  show H1[ad i]? = some (vp_cell _ _)
  rw [e1, x_cell]
theorem x_zast (B : xB p s m args meth c cc nL ret Ts own D sh ad A tys) (G : xG D sh ad A s.heap V H locs) (i : Nat) {cA : ClassId} {n : Nat} (hs : sh i = some (fun f => .inl (cA, n, .inl f))) (t0 : Nat) (ht : tys[t0]? = some (cA, .boolean)) (j : Nat) (hj : j < n) {x v : Int32} (hxj : x = nI j) (hn : n < 2 ^ 31) (hv : v = 0 ∨ v = 1) (hdg : decode cc pc = .ok (.bastore, 1))
    (kk : ∀ (H1 : Heap) (locs1 : List Loc), xG D sh ad A s.heap (xu V i j v) H1 locs1 → W p l e R s m args below meth c H1 locs1 cells slots Q (F0 m (pc + 1) ls rest)) : W p l e R s m args below meth c H locs cells slots Q (F0 m pc ls (.int v :: .int x :: .ref (ad i) :: rest)) := by
  obtain ⟨⟨hx, hb, hml, hown, hts⟩, -, -, hK, hI, hA, -⟩ := B
  subst hxj
  have hnv : narrow .boolean (.int v) = .int v := by rcases hv with rfl | rfl <;> rfl
  refine W.zast hx hb (G.1 i _ hs) ((hK.2 t0 _ ht).1 n (fun j => .int (V i j))) (fun q => by cases q) (by show ¬ (_ ∨ (arrV _ _ _).slots.size ≤ _); rw [arrV_size]; exact vp_in_nI hj hn) rfl rfl hdg fun H1 e1 z oq => ?_
  rw [nI_clamp (Nat.lt_trans hj hn), hnv] at e1
  refine kk H1 _ ⟨xW.put G.1 hI hs ?_ oq, G.2.put z oq (hA i _ hs)⟩
  show H1[ad i]? = some (vp_cell _ _)
  rw [e1, x_cell]
theorem x_recv (B : xB p s m args meth c cc nL ret Ts own D sh ad A tys) (G : xG D sh ad A s.heap V H locs) (i : Nat) {ci : Nat} {fs : (Nat → Int32) → List Value} {q : vw_C} (hs : sh i = some (fun f => .inr (ci, fs f))) (hc : vwCl[ci]? = some q) : ∃ cell : Cell, H[ad i]? = some cell ∧ cell.vm.isStatics = false ∧ s.vm.findClass q.1 = some cell.cls :=
  va_recv (ws := [(ad i, .inr (ci, fs (V i)))]) (q0 := 0) B.2.2.2.1 (xP1 (G.1 i _ hs)) hc rfl
/-- ends -/
theorem x_iret {mc ms : Nat} {r v : Int32} {V' : xV} (B : xB p s m args meth c cc nL (some .int) Ts own D sh ad A tys) (G : xG D sh ad A s.heap V H locs) (h1 : v = r) (h2 : V = V') (hdg : decode cc pc = .ok (.ireturn, 1)) : W p l e R s m args below meth c H locs mc ms (MQ below (va_Qi (fun r' u => r' = r ∧ u = V') (xEnd D sh ad tys) A) args s mc ms A) (F0 m pc ls [.int v]) := by
  obtain ⟨⟨hx, hb, hml, hown, hts⟩, hr, hlocks, hK, -⟩ := B
  exact W.iret (v := v) hx hb hr (fun t ht hW => ⟨⟨v, V, rfl, ⟨h1, h2⟩, by rw [ht]; exact G.1, va_K.moved hW.alike hK⟩, G.2.F ht⟩) G.2.2.2 hdg hlocks
theorem x_zret {mc ms : Nat} {r v : Int32} {V' : xV} (B : xB p s m args meth c cc nL (some .boolean) Ts own D sh ad A tys) (G : xG D sh ad A s.heap V H locs) (hv : v = 0 ∨ v = 1) (h1 : v = r) (h2 : V = V') (hdg : decode cc pc = .ok (.ireturn, 1)) : W p l e R s m args below meth c H locs mc ms (MQ below (va_Qi (fun r' u => r' = r ∧ u = V') (xEnd D sh ad tys) A) args s mc ms A) (F0 m pc ls [.int v]) := by
  obtain ⟨⟨hx, hb, hml, hown, hts⟩, hr, hlocks, hK, -⟩ := B
  have hnv : narrow .boolean (.int v) = .int v := by rcases hv with rfl | rfl <;> rfl
  exact W.zret (v := v) (ty := .boolean) hx hb hr hnv (fun t ht hW => ⟨⟨v, V, rfl, ⟨h1, h2⟩, by rw [ht]; exact G.1, va_K.moved hW.alike hK⟩, G.2.F ht⟩) G.2.2.2 hdg hlocks
theorem x_vret {mc ms : Nat} {V' : xV} (B : xB p s m args meth c cc nL none Ts own D sh ad A tys) (G : xG D sh ad A s.heap V H locs) (h2 : V = V') (hdg : decode cc pc = .ok (.return_, 1)) : W p l e R s m args below meth c H locs mc ms (MQ below (va_Qv (fun u => u = V') (xEnd D sh ad tys) A) args s mc ms A) (F0 m pc ls []) := by
  obtain ⟨⟨hx, hb, hml, hown, hts⟩, hr, hlocks, hK, -⟩ := B
  exact W.vret hx hb hr (fun t ht hW => ⟨⟨V, rfl, h2, by rw [ht]; exact G.1, va_K.moved hW.alike hK⟩, G.2.F ht⟩) G.2.2.2 hdg hlocks
/-- calls, the whole world handed over -/
theorem x_callVi {y : MethodName} {bytes : ByteArray} {maxL n index : Nat} {rty : Option FieldType} {ws : List Cond} {rm : Room} {C : String} {b : Addr} {As : List Value} {r : Int32} {V' : xV}
    (B : xB p s m args meth c cc nL ret Ts own D sh ad A tys) (G : xG D sh ad A s.heap V H locs) (hM : xMi l y ws rm D sh ad tys V (.ref b :: As) r V') (cw : CallW R s args own C index y bytes maxL rty ws rm 0 0 n)
    (hrv : ∃ cell : Cell, H[b]? = some cell ∧ cell.vm.isStatics = false ∧ s.vm.findClass C = some cell.cls) (hn : As.length = n) (hsz : ls.size = nL) (hst : st0 = As.reverse ++ .ref b :: rest) (hW : (rest.map fun v => v.category).sum ≤ 8) (hcs : cells ≤ R.cells ∧ slots ≤ R.slots) (hdg : decode cc pc = .ok (.invokevirtual index, 3))
    (kk : ∀ (H1 : Heap) (locs1 : List Loc), xG D sh ad A s.heap V' H1 locs1 → W p l e R s m args below meth c H1 locs1 cells slots Q (F0 m (pc + 3) ls (.int r :: rest))) : W p l e R s m args below meth c H locs cells slots Q (F0 m pc ls st0) := by
  have hA := xB.lt B G
  obtain ⟨S, -, -, hK, -⟩ := B
  refine va_calli (va_runV (As := As) (rest := rest) S (hM H.size) cw ⟨xPre_blind, hrv, fun U hU hW => ⟨rfl, by rw [hU], by rw [hU]; exact G.1, va_K.moved hW.alike hK⟩⟩ rfl hn hsz hst (lv_room hW) hdg hcs) G.2 (fun q _ h => hA q h) hA (fun r9 u t H1 locs1 ht hvm hw hB hz1 hk1 hS => ?_)
  obtain ⟨rfl, rfl⟩ := hw
  exact kk H1 locs1 ⟨by rw [← ht]; exact hB.1, hS⟩
theorem x_callVv {y : MethodName} {bytes : ByteArray} {maxL n index : Nat} {rty : Option FieldType} {ws : List Cond} {rm : Room} {C : String} {b : Addr} {As : List Value} {V' : xV}
    (B : xB p s m args meth c cc nL ret Ts own D sh ad A tys) (G : xG D sh ad A s.heap V H locs) (hM : xMv l y ws rm D sh ad tys V (.ref b :: As) V') (cw : CallW R s args own C index y bytes maxL rty ws rm 0 0 n)
    (hrv : ∃ cell : Cell, H[b]? = some cell ∧ cell.vm.isStatics = false ∧ s.vm.findClass C = some cell.cls) (hn : As.length = n) (hsz : ls.size = nL) (hst : st0 = As.reverse ++ .ref b :: rest) (hW : (rest.map fun v => v.category).sum ≤ 8) (hcs : cells ≤ R.cells ∧ slots ≤ R.slots) (hdg : decode cc pc = .ok (.invokevirtual index, 3))
    (kk : ∀ (H1 : Heap) (locs1 : List Loc), xG D sh ad A s.heap V' H1 locs1 → W p l e R s m args below meth c H1 locs1 cells slots Q (F0 m (pc + 3) ls rest)) : W p l e R s m args below meth c H locs cells slots Q (F0 m pc ls st0) := by
  have hA := xB.lt B G
  obtain ⟨S, -, -, hK, -⟩ := B
  refine va_callv (va_runV (As := As) (rest := rest) S (hM H.size) cw ⟨xPre_blind, hrv, fun U hU hW => ⟨rfl, by rw [hU], by rw [hU]; exact G.1, va_K.moved hW.alike hK⟩⟩ rfl hn hsz hst (lv_room hW) hdg hcs) G.2 (fun q _ h => hA q h) hA (fun u t H1 locs1 ht hvm hw hB hz1 hk1 hS => ?_)
  subst hw
  exact kk H1 locs1 ⟨by rw [← ht]; exact hB.1, hS⟩
theorem x_callSi {y : MethodName} {bytes : ByteArray} {maxL n index : Nat} {rty : Option FieldType} {ws : List Cond} {rm : Room} {As : List Value} {r : Int32} {V' : xV}
    (B : xB p s m args meth c cc nL ret Ts own D sh ad A tys) (G : xG D sh ad A s.heap V H locs) (hM : xMi l y ws rm D sh ad tys V As r V') (cw : CallB R s args own index y bytes maxL rty ws rm 0 0 n ∧ (Cond.static y).before args s = true)
    (hn : As.length = n) (hsz : ls.size = nL) (hst : st0 = As.reverse ++ rest) (hW : (rest.map fun v => v.category).sum ≤ 8) (hcs : cells ≤ R.cells ∧ slots ≤ R.slots) (hdg : decode cc pc = .ok (.invokestatic index, 3))
    (kk : ∀ (H1 : Heap) (locs1 : List Loc), xG D sh ad A s.heap V' H1 locs1 → W p l e R s m args below meth c H1 locs1 cells slots Q (F0 m (pc + 3) ls (.int r :: rest))) : W p l e R s m args below meth c H locs cells slots Q (F0 m pc ls st0) := by
  have hA := xB.lt B G
  obtain ⟨S, -, -, hK, -⟩ := B
  refine va_calli (va_runS (As := As) (rest := rest) S (hM H.size) cw ⟨xPre_blind, fun U hU hW => ⟨rfl, by rw [hU], by rw [hU]; exact G.1, va_K.moved hW.alike hK⟩⟩ rfl hn hsz hst (lv_room hW) hdg hcs) G.2 (fun q _ h => hA q h) hA (fun r9 u t H1 locs1 ht hvm hw hB hz1 hk1 hS => ?_)
  obtain ⟨rfl, rfl⟩ := hw
  exact kk H1 locs1 ⟨by rw [← ht]; exact hB.1, hS⟩
end XR
/-- truth as the machine writes it -/
def b2i (P : Prop) [Decidable P] : Int32 := if P then 1 else 0
