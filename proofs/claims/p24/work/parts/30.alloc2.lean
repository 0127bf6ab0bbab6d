/-- the world as a list, where it ends somewhere -/
def xL (sh : xS) (ad : Nat → Nat) (V : xV) (N : Nat) : va_W := (List.range N).filterMap (fun i => (sh i).map (fun mk => (ad i, mk (V i))))
theorem xL_mem {sh : xS} {ad : Nat → Nat} {V : xV} {N : Nat} {q : Nat × va_E} : q ∈ xL sh ad V N ↔ ∃ (i : Nat) (mk : (Nat → Int32) → va_E), i < N ∧ sh i = some mk ∧ (ad i, mk (V i)) = q := by
  unfold xL
  rw [List.mem_filterMap]
  constructor
  · rintro ⟨i, hi, h⟩
    cases e : sh i with
    | none => rw [e] at h; cases h
    | some mk => rw [e] at h; exact ⟨i, mk, List.mem_range.mp hi, e, Option.some.inj h⟩
  · rintro ⟨i, mk, hi, e, h⟩
    exact ⟨i, List.mem_range.mpr hi, by rw [e]; exact congrArg some h⟩
theorem xL_at {sh : xS} {ad : Nat → Nat} {V : xV} {N i : Nat} {mk : (Nat → Int32) → va_E} (hN : i < N) (hs : sh i = some mk) : ∃ k : Nat, (xL sh ad V N)[k]? = some (ad i, mk (V i)) :=
  List.mem_iff_getElem?.mp (xL_mem.mpr ⟨i, mk, hN, hs, rfl⟩)
theorem xL_nd {sh : xS} {ad : Nat → Nat} {V : xV} {N : Nat} (hI : xI sh ad) : (xL sh ad V N).Pairwise (fun p q => p.1 ≠ q.1) := by
  unfold xL
  rw [List.pairwise_filterMap]
  refine List.Pairwise.imp_of_mem ?_ (List.pairwise_lt_range (n := N))
  intro a b _ _ hab p hp q hq hpq
  cases e : sh a with
  | none => rw [e] at hp; cases hp
  | some ma =>
    cases e2 : sh b with
    | none => rw [e2] at hq; cases hq
    | some mb =>
      rw [e] at hp; rw [e2] at hq
      cases hp; cases hq
      exact absurd (hI a b _ _ e e2 hpq) (Nat.ne_of_lt hab)
theorem xL_inj {sh : xS} {ad : Nat → Nat} {V : xV} {N : Nat} (hI : xI sh ad) {i j : Nat} {p q : Nat × va_E} (hi : (xL sh ad V N)[i]? = some p) (hj : (xL sh ad V N)[j]? = some q) (h : p.1 = q.1) : i = j := by
  have nd := List.pairwise_iff_getElem.mp (xL_nd (V := V) (N := N) hI)
  obtain ⟨hi1, hi2⟩ := List.getElem?_eq_some_iff.mp hi
  obtain ⟨hj1, hj2⟩ := List.getElem?_eq_some_iff.mp hj
  rcases Nat.lt_trichotomy i j with c | c | c
  · exact absurd (by rw [hi2, hj2]; exact h) (nd i j hi1 hj1 c)
  · exact c
  · exact absurd (by rw [hi2, hj2]; exact h.symm) (nd j i hj1 hi1 c)
section XAm
variable {p : Program} {l : Launch} {e : Env} {R : Room} {s : State} {m : MethodId} {args : Array Value} {below : List Frame} {meth : Method} {c : Code} {H : Heap} {locs : List Loc} {cells slots : Nat} {Q : State → Prop}
variable {cc : ByteArray} {nL : Nat} {ret : Option FieldType} {Ts : List Cond} {own : String} {D : va_G} {sh : xS} {ad : Nat → Nat} {A : Nat → Prop} {tys : List (ClassId × FieldType)} {mi e0 : Nat} {V : xV} {pc : Nat} {ls : Array Slot} {rest st0 : List Value}
theorem xL_P (G : xG D sh ad A s.heap V H locs) (N : Nat) : va_P D vwCl (xL sh ad V N) H := by
  intro k q hq
  obtain ⟨i, mk, -, h2, h3⟩ := xL_mem.mp (List.mem_of_getElem? hq)
  rw [← h3]
  exact G.1 i mk h2
theorem xL_D (B : xB p s m args meth c cc nL ret Ts own D sh ad A tys) (V : xV) (N : Nat) : va_D A (xL sh ad V N) := by
  refine ⟨fun i j p q hi hj h => xL_inj B.2.2.2.2.1 hi hj h, fun k q hq => ?_⟩
  obtain ⟨i, mk, -, h2, h3⟩ := xL_mem.mp (List.mem_of_getElem? hq)
  rw [← h3]
  exact B.2.2.2.2.2.1 i mk h2
theorem xL_set {N i k0 : Nat} {m0 mk : (Nat → Int32) → va_E} (hI : xI sh ad) (hN : ∀ j, N ≤ j → sh j = none) (hs : sh i = some m0) (h0 : (xL sh ad V N)[k0]? = some (ad i, m0 (V i))) {H1 : Heap} (hP : va_P D vwCl ((xL sh ad V N).set k0 (ad i, mk (V i))) H1) : xW D (sU sh i mk) ad V H1 := by
  have hl := (List.getElem?_eq_some_iff.mp h0).1
  intro j mj hj
  by_cases e : j = i
  · subst e
    rw [sU_s] at hj
    cases hj
    exact hP k0 (ad j, mk (V j)) (by rw [List.getElem?_set_self hl])
  · rw [sU_n _ _ e] at hj
    have hjN : j < N := Nat.lt_of_not_le (fun z => by rw [hN j z] at hj; cases hj)
    obtain ⟨kj, hk⟩ := xL_at (ad := ad) (V := V) hjN hj
    refine hP kj (ad j, mj (V j)) ?_
    rw [List.getElem?_set_ne]
    · exact hk
    · intro z
      subst z
      rw [h0] at hk
      exact e (hI j i _ _ hj hs (congrArg Prod.fst (Option.some.inj hk)).symm)
/-- a thing stored in an array of Objects -/
theorem x_aast (B : xB p s m args meth c cc nL ret Ts own D sh ad A tys) (G : xG D sh ad A s.heap V H locs) {N : Nat} (hN : ∀ j, N ≤ j → sh j = none) (hca : va_Nw (.castable RX0 "java/lang/Object") s) {cO : ClassId} (t0 : Nat) (ht : tys[t0]? = some (cO, .object "java/lang/Object")) (r v : Nat) {n : Nat} {g : Nat → Option Nat} (hr : sh r = some (fun _ => .inl (cO, n, .inr (.inr (.inr (.inr g)))))) {fs : (Nat → Int32) → List Value} (hv : sh v = some (fun f => .inr (3, fs f))) (j : Nat) (hj : j < n) (hn : n < 2 ^ 31) (hdg : decode cc pc = .ok (.aastore, 1))
    (kk : ∀ (H1 : Heap) (locs1 : List Loc), xB p s m args meth c cc nL ret Ts own D (sU sh r (fun _ => .inl (cO, n, .inr (.inr (.inr (.inr (va_up g j (some (ad v))))))))) ad A tys → xG D (sU sh r (fun _ => .inl (cO, n, .inr (.inr (.inr (.inr (va_up g j (some (ad v))))))))) ad A s.heap V H1 locs1 → W p l e R s m args below meth c H1 locs1 cells slots Q (F0 m (pc + 1) ls rest)) : W p l e R s m args below meth c H locs cells slots Q (F0 m pc ls (.ref (ad v) :: .int (nI j) :: .ref (ad r) :: rest)) := by
  have lt : ∀ i mk, sh i = some mk → i < N := fun i mk h => Nat.lt_of_not_le (fun z => by rw [hN i z] at h; cases h)
  obtain ⟨k0, h0⟩ := xL_at (ad := ad) (V := V) (lt r _ hr) hr
  obtain ⟨k1, h1⟩ := xL_at (ad := ad) (V := V) (lt v _ hv) hv
  refine va_astqO (D := D) (cl := vwCl) (ws := xL sh ad V N) (E := "java/lang/Object") (r := (RX0, TX0, 11)) B.1.1 B.1.2.1 B.2.2.2.1 (xL_P G N) (xL_D B V N) G.2 k0 t0 k1 3 h0 ht hca h1 rfl (vp_in_nI hj hn) hdg (fun H1 locs1 hP hD hS => ?_)
  rw [nI_clamp (Nat.lt_trans hj hn)] at hP
  exact kk H1 locs1 (B.same hr) ⟨xL_set B.2.2.2.2.1 hN hr h0 hP, hS⟩
/-- System.arraycopy between arrays of Objects of the world, whose things are all of class C -/
theorem x_copyq (B : xB p s m args meth c cc nL ret Ts own D sh ad A tys) (G : xG D sh ad A s.heap V H locs) (hsz : ls.size = nL) {N : Nat} (hN : ∀ j, N ≤ j → sh j = none) {index : Nat} (hlink : Cond.methodLink own index arraycopyName ∈ Ts) (hnat : Cond.native arraycopyName ∈ Ts) (hstat : Cond.static arraycopyName ∈ Ts) (hini : Cond.initialized "java/lang/System" ∈ Ts)
    (hca : va_Nw (.castable RX0 "java/lang/Object") s) {cO : ClassId} (t0 : Nat) (ht : tys[t0]? = some (cO, .object "java/lang/Object")) (r0 r1 : Nat) {n0 n1 : Nat} {f g : Nat → Option Nat} (h0 : sh r0 = some (fun _ => .inl (cO, n0, .inr (.inr (.inr (.inr f)))))) (h1 : sh r1 = some (fun _ => .inl (cO, n1, .inr (.inr (.inr (.inr g))))))
    (a b k : Nat) (ha : a + k ≤ n0) (hb : b + k ≤ n1) (hn0 : n0 < 2 ^ 31) (hn1 : n1 < 2 ^ 31) (hel : ∀ i : Nat, i < k → ∀ y : Nat, f (a + i) = some y → ∃ (j : Nat) (fs : (Nat → Int32) → List Value), sh j = some (fun z => .inr (3, fs z)) ∧ ad j = y) (hframes : 1 ≤ R.frames) (hlocals : (rest.map fun v => v.category).sum + (nativeFrameWords "java/lang/System" "arraycopy" 5 + 11) ≤ R.locals) (hdg : decode cc pc = .ok (.invokestatic index, 3))
    (kk : ∀ (H1 : Heap) (locs1 : List Loc), xB p s m args meth c cc nL ret Ts own D (sU sh r1 (fun _ => .inl (cO, n1, .inr (.inr (.inr (.inr (va_cpy f g a b k))))))) ad A tys → xG D (sU sh r1 (fun _ => .inl (cO, n1, .inr (.inr (.inr (.inr (va_cpy f g a b k))))))) ad A s.heap V H1 locs1 → W p l e R s m args below meth c H1 locs1 cells slots Q (F0 m (pc + 3) ls rest)) : W p l e R s m args below meth c H locs cells slots Q (F0 m pc ls (.int (nI k) :: .int (nI b) :: .ref (ad r1) :: .int (nI a) :: .ref (ad r0) :: rest)) := by
  have lt : ∀ i mk, sh i = some mk → i < N := fun i mk h => Nat.lt_of_not_le (fun z => by rw [hN i z] at h; cases h)
  obtain ⟨k0, q0⟩ := xL_at (ad := ad) (V := V) (lt r0 _ h0) h0
  obtain ⟨k1, q1⟩ := xL_at (ad := ad) (V := V) (lt r1 _ h1) h1
  have e1 : (nI a).toNatClampNeg = a := nI_clamp (by omega)
  have e2 : (nI b).toNatClampNeg = b := nI_clamp (by omega)
  have e3 : (nI k).toNatClampNeg = k := nI_clamp (by omega)
  refine va_copyq (D := D) (cl := vwCl) (ws := xL sh ad V N) (E0 := "java/lang/Object") (E1 := "java/lang/Object") (C := RX0) B.1.1 B.1.2.1 (B.1.2.2.1.trans hsz.symm) B.1.2.2.2.1 (B.1.2.2.2.2 _ hlink) (B.1.2.2.2.2 _ hnat) (B.1.2.2.2.2 _ hstat) (B.1.2.2.2.2 _ hini) B.2.2.2.1 (xL_P G N) (xL_D B V N) G.2 k0 k1 t0 t0 q0 q1 ht ht (nI_pos (by omega)) (nI_pos (by omega)) (nI_pos (by omega)) (by rw [e1, e3]; exact ha) (by rw [e2, e3]; exact hb) (fun i hi y hy => ?_) (fun comp c0 f1 f2 => vb_asgC hca comp c0 f1 f2) hframes hlocals hdg (fun H1 locs1 hP hD hS => ?_)
  · rw [e1] at hy
    rw [e3] at hi
    obtain ⟨j, fs, g1, g2⟩ := hel i hi y hy
    rw [← g2]
    exact x_recv B G j (q := (RX0, TX0, 11)) g1 rfl
  · rw [e1, e2, e3] at hP
    exact kk H1 locs1 (B.same h1) ⟨xL_set B.2.2.2.2.1 hN h1 q1 hP, hS⟩
/-- its length -/
theorem x_alen (B : xB p s m args meth c cc nL ret Ts own D sh ad A tys) (G : xG D sh ad A s.heap V H locs) {cO : ClassId} (t0 : Nat) (ht : tys[t0]? = some (cO, .object "java/lang/Object")) (r : Nat) {n : Nat} {g : Nat → Option Nat} (hr : sh r = some (fun _ => .inl (cO, n, .inr (.inr (.inr (.inr g)))))) (hdg : decode cc pc = .ok (.arraylength, 1))
    (kk : W p l e R s m args below meth c H locs cells slots Q (F0 m (pc + 1) ls (.int (nI n) :: rest))) : W p l e R s m args below meth c H locs cells slots Q (F0 m pc ls (.ref (ad r) :: rest)) :=
  va_alen (D := D) (cl := vwCl) (ws := [(ad r, .inl (cO, n, .inr (.inr (.inr (.inr g)))))]) B.1.1 B.1.2.1 B.2.2.2.1 (xP1 (G.1 r _ hr)) 0 t0 rfl ht rfl hdg kk
/-- ends -/
theorem x_aenda {Rp : Option Value → xS → (Nat → Nat) → xV → Prop} {sh0 : xS} {ad0 : Nat → Nat} {mc ms : Nat} {q : Nat} {rt : FieldType} (hA : A = xA sh0 ad0 s.heap.size) (B : xB p s m args meth c cc nL (some rt) Ts own D sh ad A tys) (G : xG D sh ad A s.heap V H locs) (hrt : (∃ n, rt = .object n) ∨ ∃ t, rt = .array t) (hR : Rp (some (.ref q)) sh ad V) (hc : cells ≤ mc) (hs : slots ≤ ms) (hdg : decode cc pc = .ok (.areturn, 1)) : W p l e R s m args below meth c H locs cells slots (xQa below D sh0 ad0 tys s.heap.size A args s mc ms Rp) (F0 m pc ls [.ref q]) := by
  refine W.widen hc hs ?_
  obtain ⟨⟨hx, hb, hml, hown, hts⟩, hr, hlocks, hK, hI, hA1, hA2⟩ := B
  exact W.aret (v := .ref q) hx hb hr hrt (va_rf_or (some q)) (fun t ht hW => ⟨_, sh, ad, V, rfl, hR, hI, fun i mk hi => by rw [← hA]; exact hA1 i mk hi, ⟨by rw [ht]; exact G.1, va_K.moved hW.alike hK⟩, by rw [← hA]; exact G.2.F ht⟩) G.2.2.2 hdg hlocks
theorem x_aendv {Rp : Option Value → xS → (Nat → Nat) → xV → Prop} {sh0 : xS} {ad0 : Nat → Nat} {mc ms : Nat} (hA : A = xA sh0 ad0 s.heap.size) (B : xB p s m args meth c cc nL none Ts own D sh ad A tys) (G : xG D sh ad A s.heap V H locs) (hR : Rp none sh ad V) (hc : cells ≤ mc) (hs : slots ≤ ms) (hdg : decode cc pc = .ok (.return_, 1)) : W p l e R s m args below meth c H locs cells slots (xQa below D sh0 ad0 tys s.heap.size A args s mc ms Rp) (F0 m pc ls []) := by
  refine W.widen hc hs ?_
  obtain ⟨⟨hx, hb, hml, hown, hts⟩, hr, hlocks, hK, hI, hA1, hA2⟩ := B
  exact W.vret hx hb hr (fun t ht hW => ⟨_, sh, ad, V, rfl, hR, hI, fun i mk hi => by rw [← hA]; exact hA1 i mk hi, ⟨by rw [ht]; exact G.1, va_K.moved hW.alike hK⟩, by rw [← hA]; exact G.2.F ht⟩) G.2.2.2 hdg hlocks
theorem x_aendi {Rp : Option Value → xS → (Nat → Nat) → xV → Prop} {sh0 : xS} {ad0 : Nat → Nat} {mc ms : Nat} {v : Int32} (hA : A = xA sh0 ad0 s.heap.size) (B : xB p s m args meth c cc nL (some .int) Ts own D sh ad A tys) (G : xG D sh ad A s.heap V H locs) (hR : Rp (some (.int v)) sh ad V) (hc : cells ≤ mc) (hs : slots ≤ ms) (hdg : decode cc pc = .ok (.ireturn, 1)) : W p l e R s m args below meth c H locs cells slots (xQa below D sh0 ad0 tys s.heap.size A args s mc ms Rp) (F0 m pc ls [.int v]) := by
  refine W.widen hc hs ?_
  obtain ⟨⟨hx, hb, hml, hown, hts⟩, hr, hlocks, hK, hI, hA1, hA2⟩ := B
  exact W.iret hx hb hr (fun t ht hW => ⟨_, sh, ad, V, rfl, hR, hI, fun i mk hi => by rw [← hA]; exact hA1 i mk hi, ⟨by rw [ht]; exact G.1, va_K.moved hW.alike hK⟩, by rw [← hA]; exact G.2.F ht⟩) G.2.2.2 hdg hlocks
theorem x_aendz {Rp : Option Value → xS → (Nat → Nat) → xV → Prop} {sh0 : xS} {ad0 : Nat → Nat} {mc ms : Nat} {v : Int32} (hv : v = 0 ∨ v = 1) (hA : A = xA sh0 ad0 s.heap.size) (B : xB p s m args meth c cc nL (some .boolean) Ts own D sh ad A tys) (G : xG D sh ad A s.heap V H locs) (hR : Rp (some (.int v)) sh ad V) (hc : cells ≤ mc) (hs : slots ≤ ms) (hdg : decode cc pc = .ok (.ireturn, 1)) : W p l e R s m args below meth c H locs cells slots (xQa below D sh0 ad0 tys s.heap.size A args s mc ms Rp) (F0 m pc ls [.int v]) := by
  refine W.widen hc hs ?_
  obtain ⟨⟨hx, hb, hml, hown, hts⟩, hr, hlocks, hK, hI, hA1, hA2⟩ := B
  exact W.zret hx hb hr (by rcases hv with rfl | rfl <;> rfl) (fun t ht hW => ⟨_, sh, ad, V, rfl, hR, hI, fun i mk hi => by rw [← hA]; exact hA1 i mk hi, ⟨by rw [ht]; exact G.1, va_K.moved hW.alike hK⟩, by rw [← hA]; exact G.2.F ht⟩) G.2.2.2 hdg hlocks
theorem xE.at (B : xB p s m args meth c cc nL ret Ts own D sh ad A tys) (G : xG D sh ad A s.heap V H locs) (E : xE mi e0 A s s.heap) {U : State} (hU : U.heap = H) (hW : s.WarmedH U.vm) : xE mi e0 (xA sh ad H.size) U U.heap := by
  rw [hU]
  exact (E.moved hW (fun a h1 h2 => G.2.2.1 a h1 h2)).narrow (xB.lt B G)
/-- calls of methods that make things -/
theorem x_callA {mc ms : Nat} {Rp : Option Value → xS → (Nat → Nat) → xV → Prop} {a : Array Value} (B : xB p s m args meth c cc nL ret Ts own D sh ad A tys) (G : xG D sh ad A s.heap V H locs) (hr : va_Run p l e R s m args below meth c H locs cells slots mc ms (F0 m pc ls st0) rest (xPa D sh ad tys H.size Rp a) (xA sh ad H.size))
    (kk : ∀ (v : Option Value) (sh' : xS) (ad' : Nat → Nat) (V' : xV) (H1 : Heap) (locs1 : List Loc), Rp v sh' ad' V' → xB p s m args meth c cc nL ret Ts own D sh' ad' A tys → xG D sh' ad' A s.heap V' H1 locs1 → W p l e R s m args below meth c H1 locs1 (cells + mc) (slots + ms) Q (F0 m (pc + 3) ls (v.toList ++ rest))) : W p l e R s m args below meth c H locs cells slots Q (F0 m pc ls st0) := by
  have hA := xB.lt B G
  intro T hT X
  obtain ⟨v, st₀, t, T', L, h0, X', hL, e1, e2, ⟨v', sh', ad', V', hv, hR, hI', hA', hE, hF⟩, st⟩ := hr T hT X
  cases hv
  obtain ⟨k1, k2, k3⟩ := vx_keep h0 e1 G.2 (fun q _ h => hA q h) hA hL hF
  obtain ⟨b1, b2, b3, b4, b5, b6, b7⟩ := B
  obtain ⟨t2, a1, b1⟩ := kk _ sh' ad' V' T'.heap (locs ++ L) hR ⟨b1, b2, b3, b4, hI', fun i mk hi => hA _ (hA' i mk hi), b7⟩ ⟨by rw [e1]; exact hE.1, k3⟩ T' rfl X'
  exact ⟨t2, st t2 a1, b1⟩
theorem x_callVa {y : MethodName} {bytes : ByteArray} {maxL n index : Nat} {rty : Option FieldType} {ws : List Cond} {rm : Room} {C : String} {b : Addr} {As : List Value} {Rp : Option Value → xS → (Nat → Nat) → xV → Prop}
    (B : xB p s m args meth c cc nL ret Ts own D sh ad A tys) (E : xE mi e0 A s s.heap) (G : xG D sh ad A s.heap V H locs) (hM : xMa l y ws rm D sh ad tys mi e0 V (.ref b :: As) Rp) (cw : CallW R s args own C index y bytes maxL rty ws rm rm.cells rm.slots n)
    (hrv : ∃ cell : Cell, H[b]? = some cell ∧ cell.vm.isStatics = false ∧ s.vm.findClass C = some cell.cls) (hn : As.length = n) (hsz : ls.size = nL) (hst : st0 = As.reverse ++ .ref b :: rest) (hW : (rest.map fun v => v.category).sum ≤ 8) (hcs : cells + rm.cells ≤ R.cells ∧ slots + rm.slots ≤ R.slots) (hdg : decode cc pc = .ok (.invokevirtual index, 3))
    (kk : ∀ (v : Option Value) (sh' : xS) (ad' : Nat → Nat) (V' : xV) (H1 : Heap) (locs1 : List Loc), Rp v sh' ad' V' → xB p s m args meth c cc nL ret Ts own D sh' ad' A tys → xG D sh' ad' A s.heap V' H1 locs1 → W p l e R s m args below meth c H1 locs1 (cells + rm.cells) (slots + rm.slots) Q (F0 m (pc + 3) ls (v.toList ++ rest))) : W p l e R s m args below meth c H locs cells slots Q (F0 m pc ls st0) :=
  x_callA B G (va_runV (As := As) (rest := rest) B.1 (hM H.size) cw ⟨xPreE_blind, hrv, fun U hU hW => ⟨rfl, by rw [hU], by rw [hU]; exact G.1, va_K.moved hW.alike B.2.2.2.1, E.at B G hU hW⟩⟩ rfl hn hsz hst (lv_room hW) hdg hcs) kk
theorem x_callIa {y : MethodName} {bytes : ByteArray} {maxL n index : Nat} {ws : List Cond} {rm : Room} {b : Addr} {As : List Value} {Rp : Option Value → xS → (Nat → Nat) → xV → Prop}
    (B : xB p s m args meth c cc nL ret Ts own D sh ad A tys) (E : xE mi e0 A s s.heap) (G : xG D sh ad A s.heap V H locs) (hM : xMa l y ws rm D sh ad tys mi e0 V (.ref b :: As) Rp) (cw : CallB R s args own index y bytes maxL none ws rm rm.cells rm.slots n ∧ y.name = "<init>" ∧ (Cond.instanceMethod y).before args s = true)
    (hn : As.length = n) (hsz : ls.size = nL) (hst : st0 = As.reverse ++ .ref b :: rest) (hW : (rest.map fun v => v.category).sum ≤ 8) (hcs : cells + rm.cells ≤ R.cells ∧ slots + rm.slots ≤ R.slots) (hdg : decode cc pc = .ok (.invokespecial index, 3))
    (kk : ∀ (v : Option Value) (sh' : xS) (ad' : Nat → Nat) (V' : xV) (H1 : Heap) (locs1 : List Loc), Rp v sh' ad' V' → xB p s m args meth c cc nL ret Ts own D sh' ad' A tys → xG D sh' ad' A s.heap V' H1 locs1 → W p l e R s m args below meth c H1 locs1 (cells + rm.cells) (slots + rm.slots) Q (F0 m (pc + 3) ls (v.toList ++ rest))) : W p l e R s m args below meth c H locs cells slots Q (F0 m pc ls st0) :=
  x_callA B G (va_runI (As := As) (rest := rest) B.1 (hM H.size) cw ⟨xPreE_blind, fun U hU hW => ⟨rfl, by rw [hU], by rw [hU]; exact G.1, va_K.moved hW.alike B.2.2.2.1, E.at B G hU hW⟩⟩ rfl hn hsz hst (lv_room hW) hdg hcs) kk
theorem x_callSa {y : MethodName} {bytes : ByteArray} {maxL n index : Nat} {rty : Option FieldType} {ws : List Cond} {rm : Room} {As : List Value} {Rp : Option Value → xS → (Nat → Nat) → xV → Prop}
    (B : xB p s m args meth c cc nL ret Ts own D sh ad A tys) (E : xE mi e0 A s s.heap) (G : xG D sh ad A s.heap V H locs) (hM : xMa l y ws rm D sh ad tys mi e0 V As Rp) (cw : CallB R s args own index y bytes maxL rty ws rm rm.cells rm.slots n ∧ (Cond.static y).before args s = true)
    (hn : As.length = n) (hsz : ls.size = nL) (hst : st0 = As.reverse ++ rest) (hW : (rest.map fun v => v.category).sum ≤ 8) (hcs : cells + rm.cells ≤ R.cells ∧ slots + rm.slots ≤ R.slots) (hdg : decode cc pc = .ok (.invokestatic index, 3))
    (kk : ∀ (v : Option Value) (sh' : xS) (ad' : Nat → Nat) (V' : xV) (H1 : Heap) (locs1 : List Loc), Rp v sh' ad' V' → xB p s m args meth c cc nL ret Ts own D sh' ad' A tys → xG D sh' ad' A s.heap V' H1 locs1 → W p l e R s m args below meth c H1 locs1 (cells + rm.cells) (slots + rm.slots) Q (F0 m (pc + 3) ls (v.toList ++ rest))) : W p l e R s m args below meth c H locs cells slots Q (F0 m pc ls st0) :=
  x_callA B G (va_runS (As := As) (rest := rest) B.1 (hM H.size) cw ⟨xPreE_blind, fun U hU hW => ⟨rfl, by rw [hU], by rw [hU]; exact G.1, va_K.moved hW.alike B.2.2.2.1, E.at B G hU hW⟩⟩ rfl hn hsz hst (lv_room hW) hdg hcs) kk
end XAm
