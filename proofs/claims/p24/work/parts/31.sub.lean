/-! SUB-WORLDS: a made thing apart from the rest, until it joins -/
def sN : xS := fun _ => none
def mJ {α : Type} (J : Nat → Bool) (a b : Nat → α) : Nat → α := fun i => if J i = true then a i else b i
theorem mJ_t {α : Type} {J : Nat → Bool} {a b : Nat → α} {i : Nat} (h : J i = true) : mJ J a b i = a i := if_pos h
theorem mJ_f {α : Type} {J : Nat → Bool} {a b : Nat → α} {i : Nat} (h : J i = false) : mJ J a b i = b i := if_neg (by rw [h]; decide)
section XSb
variable {p : Program} {l : Launch} {e : Env} {R : Room} {s : State} {m : MethodId} {args : Array Value} {below : List Frame} {meth : Method} {c : Code} {H : Heap} {locs : List Loc} {cells slots : Nat} {Q : State → Prop}
variable {cc : ByteArray} {nL : Nat} {ret : Option FieldType} {Ts : List Cond} {own : String} {D : va_G} {sh sh' : xS} {ad ad' : Nat → Nat} {A : Nat → Prop} {tys : List (ClassId × FieldType)} {mi e0 : Nat} {V V' : xV} {pc : Nat} {ls : Array Slot} {rest st0 : List Value}
/-- the addresses of one world are none of the other's -/
def xApart (sh : xS) (ad : Nat → Nat) (sh' : xS) (ad' : Nat → Nat) : Prop := ∀ (i : Nat) (mk : (Nat → Int32) → va_E) (j : Nat) (mj : (Nat → Int32) → va_E), sh i = some mk → sh' j = some mj → ad i ≠ ad' j
theorem xApart.symm (h : xApart sh ad sh' ad') : xApart sh' ad' sh ad := fun i mk j mj h1 h2 z => h j mj i mk h2 h1 z.symm
theorem xG.join (G : xG D sh ad A s.heap V H locs) (W' : xW D sh' ad' V' H) {shm : xS} {adm : Nat → Nat} {Vm : xV} (h : ∀ (i : Nat) (mk : (Nat → Int32) → va_E), shm i = some mk → (∃ (j : Nat) (mj : (Nat → Int32) → va_E), sh j = some mj ∧ ad j = adm i ∧ mj (V j) = mk (Vm i)) ∨ (∃ (j : Nat) (mj : (Nat → Int32) → va_E), sh' j = some mj ∧ ad' j = adm i ∧ mj (V' j) = mk (Vm i))) : xG D shm adm A s.heap Vm H locs := by
  refine ⟨fun i mk hi => ?_, G.2⟩
  rcases h i mk hi with ⟨j, mj, h1, h2, h3⟩ | ⟨j, mj, h1, h2, h3⟩
  · rw [← h2, ← h3]; exact G.1 j mj h1
  · rw [← h2, ← h3]; exact W' j mj h1
/-- ids apart: the plain join -/
theorem xG.joinJ (G : xG D sh ad A s.heap V H locs) (W' : xW D sh' ad' V' H) (J : Nat → Bool) : xG D (mJ J sh' sh) (mJ J ad' ad) A s.heap (mJ J V' V) H locs := by
  refine G.join W' (fun i mk hi => ?_)
  cases e : J i with
  | true => rw [mJ_t e] at hi; exact Or.inr ⟨i, mk, hi, (mJ_t e).symm, by rw [mJ_t e]⟩
  | false => rw [mJ_f e] at hi; exact Or.inl ⟨i, mk, hi, (mJ_f e).symm, by rw [mJ_f e]⟩
theorem xI.joinJ (h : xI sh ad) (h' : xI sh' ad') (hap : xApart sh ad sh' ad') (J : Nat → Bool) : xI (mJ J sh' sh) (mJ J ad' ad) := by
  intro i j mi mj hi hj hij
  cases e : J i with
  | true =>
    rw [mJ_t e] at hi
    cases e2 : J j with
    | true => rw [mJ_t e2] at hj; rw [mJ_t e, mJ_t e2] at hij; exact h' i j mi mj hi hj hij
    | false => rw [mJ_f e2] at hj; rw [mJ_t e, mJ_f e2] at hij; exact absurd hij.symm (hap j mj i mi hj hi)
  | false =>
    rw [mJ_f e] at hi
    cases e2 : J j with
    | true => rw [mJ_t e2] at hj; rw [mJ_f e, mJ_t e2] at hij; exact absurd hij (hap i mi j mj hi hj)
    | false => rw [mJ_f e2] at hj; rw [mJ_f e, mJ_f e2] at hij; exact h i j mi mj hi hj hij
theorem xB.joinJ (B : xB p s m args meth c cc nL ret Ts own D sh ad A tys) (hI : xI sh' ad') (hA : ∀ (i : Nat) (mk : (Nat → Int32) → va_E), sh' i = some mk → A (ad' i)) (hap : xApart sh ad sh' ad') (J : Nat → Bool) : xB p s m args meth c cc nL ret Ts own D (mJ J sh' sh) (mJ J ad' ad) A tys := by
  obtain ⟨b1, b2, b3, b4, b5, b6, b7⟩ := B
  refine ⟨b1, b2, b3, b4, b5.joinJ hI hap J, fun i mk hi => ?_, b7⟩
  cases e : J i with
  | true => rw [mJ_t e] at hi ⊢; exact hA i mk hi
  | false => rw [mJ_f e] at hi ⊢; exact b6 i mk hi
/-- a new object, a world of its own -/
theorem x_newS (B : xB p s m args meth c cc nL ret Ts own D sh ad A tys) (G : xG D sh ad A s.heap V H locs) (i : Nat) {C : String} {T : u_T} {N ci index : Nat} (fs : (Nat → Int32) → List Value) (hc : vwCl[ci]? = some (C, T, N)) (hin : ∀ w ∈ u_ws C T N, w ∈ Ts) (ty : Nat → FieldType) (hty : ∀ k, k < N → parseFieldDescriptor (T k).2.2.1 = some (ty k))
    (hcl : Cond.classLink own index C ∈ Ts) (hinst : Cond.instantiable C N ∈ Ts) (hini : Cond.initialized C ∈ Ts) (hfs : ∀ j, j < N → defaultValue (ty j) = vp_V (fs (fun _ => 0)) j) (hcells : cells + 1 ≤ R.cells) (hslots : slots + N ≤ R.slots) (hdg : decode cc pc = .ok (.new index, 3))
    (kk : ∀ (q : Nat) (H1 : Heap), xG D sh ad A s.heap V H1 locs → xW D (sU sN i (fun f => .inr (ci, fs f))) (fun _ => q) (fun _ _ => 0) H1 → xApart sh ad (sU sN i (fun f => .inr (ci, fs f))) (fun _ => q) → A q → W p l e R s m args below meth c H1 locs (cells + 1) (slots + N) Q (F0 m (pc + 3) ls (.ref q :: rest))) : W p l e R s m args below meth c H locs cells slots Q (F0 m pc ls rest) := by
  have hKn := B.2.2.2.1.1 ci _ hc
  refine W.newcK B.1.1 B.1.2.1 B.1.2.2.2.1 (B.1.2.2.2.2 _ hcl) (B.1.2.2.2.2 _ hinst) (B.1.2.2.2.2 _ hini) rfl hdg hcells hslots hKn.2.1 rfl fun H1 kC hkC e1 z1 o1 => ?_
  refine kk H.size H1 ⟨fun j mj hj => (G.1 j mj hj).kept (o1 _ (G.1 j mj hj).lt), Nat.le_trans G.2.1 (by omega), fun q h1 h2 => (o1 q (Nat.lt_of_lt_of_le h1 G.2.1)).trans (G.2.2.1 q h1 h2), G.2.2.2⟩ (fun j mj hj => ?_) (fun a ma b mb ha hb => Nat.ne_of_lt (G.1 a ma ha).lt) (B.2.2.2.2.2.2 _ G.2.1)
  by_cases ej : j = i
  · subst ej
    rw [sU_s] at hj
    cases hj
    exact ⟨_, hc, (u_born ty B.1.2.2.2.2 hin hKn hkC e1 hty).to hfs⟩
  · rw [sU_n _ _ ej] at hj
    cases hj
theorem sU_I (i : Nat) (mk : (Nat → Int32) → va_E) (ad : Nat → Nat) : xI (sU sN i mk) ad := by
  intro a b ma mb ha hb _
  have h : ∀ (a : Nat) (ma : (Nat → Int32) → va_E), sU sN i mk a = some ma → a = i := fun a ma ha => by
    by_cases ea : a = i
    · exact ea
    · rw [sU_n _ _ ea] at ha; cases ha
  rw [h a ma ha, h b mb hb]
/-- a call that has a sub-world only -/
theorem x_callSub {mc ms : Nat} {sh0 : xS} {ad0 : Nat → Nat} {Rp : Option Value → xS → (Nat → Nat) → xV → Prop} {a : Array Value} (B : xB p s m args meth c cc nL ret Ts own D sh ad A tys) (G : xG D sh ad A s.heap V H locs) (hA0 : ∀ (i : Nat) (mk : (Nat → Int32) → va_E), sh0 i = some mk → A (ad0 i)) (hap : xApart sh ad sh0 ad0) (hr : va_Run p l e R s m args below meth c H locs cells slots mc ms (F0 m pc ls st0) rest (xPa D sh0 ad0 tys H.size Rp a) (xA sh0 ad0 H.size))
    (kk : ∀ (v : Option Value) (sh' : xS) (ad' : Nat → Nat) (V' : xV) (H1 : Heap) (locs1 : List Loc), Rp v sh' ad' V' → xI sh' ad' → (∀ (i : Nat) (mk : (Nat → Int32) → va_E), sh' i = some mk → A (ad' i)) → xApart sh ad sh' ad' → xW D sh' ad' V' H1 → xG D sh ad A s.heap V H1 locs1 → W p l e R s m args below meth c H1 locs1 (cells + mc) (slots + ms) Q (F0 m (pc + 3) ls (v.toList ++ rest))) : W p l e R s m args below meth c H locs cells slots Q (F0 m pc ls st0) := by
  have hA : ∀ q : Nat, xA sh0 ad0 H.size q → A q := by
    intro q hq
    rcases hq with ⟨i, mk, hi, rfl⟩ | hq
    · exact hA0 i mk hi
    · exact B.2.2.2.2.2.2 q (Nat.le_trans G.2.1 hq)
  have hno : ∀ (i : Nat) (mk : (Nat → Int32) → va_E), sh i = some mk → ¬ xA sh0 ad0 H.size (ad i) := by
    intro i mk hi z
    rcases z with ⟨j, mj, hj, e⟩ | z
    · exact hap i mk j mj hi hj e.symm
    · exact Nat.not_le.mpr (G.1 i mk hi).lt z
  intro T hT X
  obtain ⟨v, st₀, t, T', L, h0, X', hL, e1, e2, ⟨v', sh', ad', V', hv, hR, hI', hA', hE, hF⟩, st⟩ := hr T hT X
  cases hv
  obtain ⟨k1, k2, k3⟩ := vx_keep h0 e1 G.2 (fun q _ h => hA q h) hA hL hF
  obtain ⟨t2, a1, b1⟩ := kk _ sh' ad' V' T'.heap (locs ++ L) hR hI' (fun i mk hi => hA _ (hA' i mk hi)) (fun i mk j mj hi hj z => hno i mk hi (by rw [z]; exact hA' j mj hj)) (by rw [e1]; exact hE.1) ⟨fun i mk hi => (G.1 i mk hi).kept (k2 _ (G.1 i mk hi).lt (hno i mk hi)), k3⟩ T' rfl X'
  exact ⟨t2, st t2 a1, b1⟩
theorem x_callISub {y : MethodName} {bytes : ByteArray} {maxL n index : Nat} {ws : List Cond} {rm : Room} {b : Addr} {As : List Value} {Rp : Option Value → xS → (Nat → Nat) → xV → Prop} {sh0 : xS} {ad0 : Nat → Nat} {V0 : xV}
    (B : xB p s m args meth c cc nL ret Ts own D sh ad A tys) (E : xE mi e0 A s s.heap) (G : xG D sh ad A s.heap V H locs) (W0 : xW D sh0 ad0 V0 H) (hA0 : ∀ (i : Nat) (mk : (Nat → Int32) → va_E), sh0 i = some mk → A (ad0 i)) (hap : xApart sh ad sh0 ad0) (hM : xMa l y ws rm D sh0 ad0 tys mi e0 V0 (.ref b :: As) Rp) (cw : CallB R s args own index y bytes maxL none ws rm rm.cells rm.slots n ∧ y.name = "<init>" ∧ (Cond.instanceMethod y).before args s = true)
    (hn : As.length = n) (hsz : ls.size = nL) (hst : st0 = As.reverse ++ .ref b :: rest) (hW : (rest.map fun v => v.category).sum ≤ 8) (hcs : cells + rm.cells ≤ R.cells ∧ slots + rm.slots ≤ R.slots) (hdg : decode cc pc = .ok (.invokespecial index, 3))
    (kk : ∀ (v : Option Value) (sh' : xS) (ad' : Nat → Nat) (V' : xV) (H1 : Heap) (locs1 : List Loc), Rp v sh' ad' V' → xI sh' ad' → (∀ (i : Nat) (mk : (Nat → Int32) → va_E), sh' i = some mk → A (ad' i)) → xApart sh ad sh' ad' → xW D sh' ad' V' H1 → xG D sh ad A s.heap V H1 locs1 → W p l e R s m args below meth c H1 locs1 (cells + rm.cells) (slots + rm.slots) Q (F0 m (pc + 3) ls (v.toList ++ rest))) : W p l e R s m args below meth c H locs cells slots Q (F0 m pc ls st0) := by
  refine x_callSub B G hA0 hap (va_runI (As := As) (rest := rest) B.1 (hM H.size) cw ⟨xPreE_blind, fun U hU hW => ⟨rfl, by rw [hU], by rw [hU]; exact W0, va_K.moved hW.alike B.2.2.2.1, ?_⟩⟩ rfl hn hsz hst (lv_room hW) hdg hcs) kk
  rw [hU]
  refine (E.moved hW (fun a h1 h2 => G.2.2.1 a h1 h2)).narrow ?_
  intro q hq
  rcases hq with ⟨i, mk, hi, rfl⟩ | hq
  · exact hA0 i mk hi
  · exact B.2.2.2.2.2.2 q (Nat.le_trans G.2.1 hq)
end XSb
