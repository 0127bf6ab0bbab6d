/-! CONTRACTS THAT ANSWER A REFERENCE; the lists' form -/
def xMq (l : Launch) (y : MethodName) (ws : List Cond) (rm : Room) (D : va_G) (sh : xS) (ad : Nat → Nat) (tys : List (ClassId × FieldType)) (V : xV) (av : List Value) (r : Option Nat) (V' : xV) : Prop :=
  ∀ sz : Nat, Met l y ws rm (xPre D sh ad tys V av sz) (va_Qq (fun r' u => r' = r ∧ u = V') (xEnd D sh ad tys) (xA sh ad sz)) 0 0 (xA sh ad sz)
abbrev xQq (below : List Frame) (D : va_G) (sh : xS) (ad : Nat → Nat) (tys : List (ClassId × FieldType)) (A : Nat → Prop) (args : Array Value) (s : State) (r : Option Nat) (V' : xV) : State → Prop := MQ below (va_Qq (fun r' u => r' = r ∧ u = V') (xEnd D sh ad tys) A) args s 0 0 A
theorem xOfq {l : Launch} {y : MethodName} {ws ws' : List Cond} {rm : Room} {D : va_G} {sh : xS} {ad : Nat → Nat} {tys : List (ClassId × FieldType)} {V : xV} {av : List Value} {cc : ByteArray} {nL : Nat} {ret : Option FieldType} {own : String} {r : Option Nat} {V' : xV}
    (hy : plainName y.cls = true) (ho : y.cls = own) (hw : ws = Cond.code y cc nL ret :: ws') (hlen : (lg_sl av).length ≤ nL) (hI : xI sh ad)
    (body : ∀ (p : Program) (e : Env) (s : State) (m : MethodId) (args : Array Value) (below : List Frame) (meth : Method) (c : Code) (A : Nat → Prop) (ls : Array Slot), xB p s m args meth c cc nL ret ws own D sh ad A tys → xG D sh ad A s.heap V s.heap [] → lv_has ls nL (lv_args 0 av) → W p l e rm s m args below meth c s.heap [] 0 0 (xQq below D sh ad tys A args s r V') (F0 m 0 ls [])) :
    xMq l y ws rm D sh ad tys V av r V' := fun sz =>
  xOf (Qc := fun A => va_Qq (fun r' u => r' = r ∧ u = V') (xEnd D sh ad tys) A) hy ho hw hlen hI (fun p e s m below meth c A ls _ B G h => body p e s m _ below meth c A ls B G h) sz
section XQ
variable {p : Program} {l : Launch} {e : Env} {R : Room} {s : State} {m : MethodId} {args : Array Value} {below : List Frame} {meth : Method} {c : Code} {H : Heap} {locs : List Loc} {cells slots : Nat} {Q : State → Prop}
variable {cc : ByteArray} {nL : Nat} {ret : Option FieldType} {Ts : List Cond} {own : String} {D : va_G} {sh : xS} {ad : Nat → Nat} {A : Nat → Prop} {tys : List (ClassId × FieldType)} {V : xV} {pc : Nat} {ls : Array Slot} {rest st0 : List Value}
theorem x_qret {mc ms : Nat} {r : Option Nat} {v : Value} {V' : xV} {rt : FieldType} (B : xB p s m args meth c cc nL (some rt) Ts own D sh ad A tys) (G : xG D sh ad A s.heap V H locs) (hrt : (∃ n, rt = .object n) ∨ ∃ t, rt = .array t) (h1 : v = va_rf r) (h2 : V = V') (hdg : decode cc pc = .ok (.areturn, 1)) : W p l e R s m args below meth c H locs mc ms (MQ below (va_Qq (fun r' u => r' = r ∧ u = V') (xEnd D sh ad tys) A) args s mc ms A) (F0 m pc ls [v]) := by
  obtain ⟨⟨hx, hb, hml, hown, hts⟩, hr, hlocks, hK, -⟩ := B
  subst h1
  exact W.aret (v := va_rf r) hx hb hr hrt (va_rf_or r) (fun t ht hW => ⟨⟨r, V, rfl, ⟨rfl, h2⟩, by rw [ht]; exact G.1, va_K.moved hW.alike hK⟩, G.2.F ht⟩) G.2.2.2 hdg hlocks
theorem x_callVq {y : MethodName} {bytes : ByteArray} {maxL n index : Nat} {rty : Option FieldType} {ws : List Cond} {rm : Room} {C : String} {b : Addr} {As : List Value} {r : Option Nat} {V' : xV}
    (B : xB p s m args meth c cc nL ret Ts own D sh ad A tys) (G : xG D sh ad A s.heap V H locs) (hM : xMq l y ws rm D sh ad tys V (.ref b :: As) r V') (cw : CallW R s args own C index y bytes maxL rty ws rm 0 0 n)
    (hrv : ∃ cell : Cell, H[b]? = some cell ∧ cell.vm.isStatics = false ∧ s.vm.findClass C = some cell.cls) (hn : As.length = n) (hsz : ls.size = nL) (hst : st0 = As.reverse ++ .ref b :: rest) (hW : (rest.map fun v => v.category).sum ≤ 8) (hcs : cells ≤ R.cells ∧ slots ≤ R.slots) (hdg : decode cc pc = .ok (.invokevirtual index, 3))
    (kk : ∀ (H1 : Heap) (locs1 : List Loc), xG D sh ad A s.heap V' H1 locs1 → W p l e R s m args below meth c H1 locs1 cells slots Q (F0 m (pc + 3) ls (va_rf r :: rest))) : W p l e R s m args below meth c H locs cells slots Q (F0 m pc ls st0) := by
  have hA := xB.lt B G
  obtain ⟨S, -, -, hK, -⟩ := B
  refine va_callq (va_runV (As := As) (rest := rest) S (hM H.size) cw ⟨xPre_blind, hrv, fun U hU hW => ⟨rfl, by rw [hU], by rw [hU]; exact G.1, va_K.moved hW.alike hK⟩⟩ rfl hn hsz hst (lv_room hW) hdg hcs) G.2 (fun q _ h => hA q h) hA (fun r9 u t H1 locs1 ht hvm hw hB hz1 hk1 hS => ?_)
  obtain ⟨rfl, rfl⟩ := hw
  exact kk H1 locs1 ⟨by rw [← ht]; exact hB.1, hS⟩
theorem x_callSv {y : MethodName} {bytes : ByteArray} {maxL n index : Nat} {rty : Option FieldType} {ws : List Cond} {rm : Room} {As : List Value} {V' : xV}
    (B : xB p s m args meth c cc nL ret Ts own D sh ad A tys) (G : xG D sh ad A s.heap V H locs) (hM : xMv l y ws rm D sh ad tys V As V') (cw : CallB R s args own index y bytes maxL rty ws rm 0 0 n ∧ (Cond.static y).before args s = true)
    (hn : As.length = n) (hsz : ls.size = nL) (hst : st0 = As.reverse ++ rest) (hW : (rest.map fun v => v.category).sum ≤ 8) (hcs : cells ≤ R.cells ∧ slots ≤ R.slots) (hdg : decode cc pc = .ok (.invokestatic index, 3))
    (kk : ∀ (H1 : Heap) (locs1 : List Loc), xG D sh ad A s.heap V' H1 locs1 → W p l e R s m args below meth c H1 locs1 cells slots Q (F0 m (pc + 3) ls rest)) : W p l e R s m args below meth c H locs cells slots Q (F0 m pc ls st0) := by
  have hA := xB.lt B G
  obtain ⟨S, -, -, hK, -⟩ := B
  refine va_callv (va_runS (As := As) (rest := rest) S (hM H.size) cw ⟨xPre_blind, fun U hU hW => ⟨rfl, by rw [hU], by rw [hU]; exact G.1, va_K.moved hW.alike hK⟩⟩ rfl hn hsz hst (lv_room hW) hdg hcs) G.2 (fun q _ h => hA q h) hA (fun u t H1 locs1 ht hvm hw hB hz1 hk1 hS => ?_)
  subst hw
  exact kk H1 locs1 ⟨by rw [← ht]; exact hB.1, hS⟩
/-- an element of an array of references -/
theorem x_aald (B : xB p s m args meth c cc nL ret Ts own D sh ad A tys) (G : xG D sh ad A s.heap V H locs) (i : Nat) {cA : ClassId} {C : String} {n : Nat} {g : Nat → Option Nat} (hs : sh i = some (fun _ => .inl (cA, n, .inr (.inr (.inr (.inr g)))))) (t0 : Nat) (ht : tys[t0]? = some (cA, .object C)) (j : Nat) (hj : j < n) {x : Int32} (hxj : x = nI j) (hn : n < 2 ^ 31) (hdg : decode cc pc = .ok (.aaload, 1))
    (kk : W p l e R s m args below meth c H locs cells slots Q (F0 m (pc + 1) ls (va_rf (g j) :: rest))) : W p l e R s m args below meth c H locs cells slots Q (F0 m pc ls (.int x :: .ref (ad i) :: rest)) := by
  obtain ⟨⟨hx, hb, hml, hown, hts⟩, -, -, hK, -⟩ := B
  subst hxj
  refine va_aldq (D := D) (cl := vwCl) (ws := [(ad i, .inl (cA, n, .inr (.inr (.inr (.inr g)))))]) hx hb hK (xP1 (G.1 i _ hs)) 0 t0 rfl ht (vp_in_nI hj hn) hdg ?_
  rw [nI_clamp (Nat.lt_trans hj hn)]
  exact kk
/-- checkcast to its own class -/
theorem x_cast (B : xB p s m args meth c cc nL ret Ts own D sh ad A tys) (G : xG D sh ad A s.heap V H locs) (i : Nat) {ci index : Nat} {fs : (Nat → Int32) → List Value} {q : vw_C} (hs : sh i = some (fun f => .inr (ci, fs f))) (hc : vwCl[ci]? = some q) (hlink : Cond.classLink own index q.1 ∈ Ts) (hdg : decode cc pc = .ok (.checkcast index, 3))
    (kk : W p l e R s m args below meth c H locs cells slots Q (F0 m (pc + 3) ls (.ref (ad i) :: rest))) : W p l e R s m args below meth c H locs cells slots Q (F0 m pc ls (.ref (ad i) :: rest)) :=
  va_castS B.1.1 B.1.2.1 B.1.2.2.2.1 (B.1.2.2.2.2 _ hlink) (B.2.2.2.1.1 ci q hc).2 (x_recv B G i hs hc) hdg kk
end XQ
def lFs (a : Nat) (f : Nat → Int32) : List Value := [.int (f 0), .ref a, .int (f 2)]
/-- a list: the object i, its row r, n elements, the things named by el -/
def xLi (sh : xS) (ad : Nat → Nat) (cO : ClassId) (i r n : Nat) (el : Nat → Nat) : Prop :=
  ∃ a : Nat, sh i = some (fun f => .inr (2, lFs a f)) ∧ (n ≠ 0 → a = ad r ∧ ∃ (cap : Nat) (g : Nat → Option Nat), n ≤ cap ∧ cap < 2 ^ 31 ∧ sh r = some (fun _ => .inl (cO, cap, .inr (.inr (.inr (.inr g))))) ∧ ∀ j, j < n → g j = some (ad (el j)))
section XL
variable {p : Program} {l : Launch} {e : Env} {R : Room} {s : State} {m : MethodId} {args : Array Value} {below : List Frame} {meth : Method} {c : Code} {H : Heap} {locs : List Loc} {cells slots : Nat} {Q : State → Prop}
variable {cc : ByteArray} {nL : Nat} {ret : Option FieldType} {Ts : List Cond} {own : String} {D : va_G} {sh : xS} {ad : Nat → Nat} {A : Nat → Prop} {tys : List (ClassId × FieldType)} {V : xV} {pc : Nat} {ls : Array Slot} {rest st0 : List Value}
theorem l_getI (B : xB p s m args meth c cc nL ret Ts own D sh ad A tys) (G : xG D sh ad A s.heap V H locs) (i : Nat) {a : Nat} (hs : sh i = some (fun f => .inr (2, lFs a f))) (hin : ∀ w ∈ wsJx4a65c0, w ∈ Ts) {index : Nat} (hlink : Cond.fieldLink own index RJx4a65c (TJx4a65c 2).2.1 (TJx4a65c 2).2.2.1 ∈ Ts) (hdg : decode cc pc = .ok (.getfield index, 3))
    (kk : W p l e R s m args below meth c H locs cells slots Q (F0 m (pc + 3) ls (.int (V i 2) :: rest))) : W p l e R s m args below meth c H locs cells slots Q (F0 m pc ls (.ref (ad i) :: rest)) :=
  x_get B G i hs (C := RJx4a65c) (T := TJx4a65c) (N := 3) rfl hin 2 (by omega) hlink (fun x h => h) rfl hdg kk
theorem l_getA (B : xB p s m args meth c cc nL ret Ts own D sh ad A tys) (G : xG D sh ad A s.heap V H locs) (i : Nat) {a : Nat} (hs : sh i = some (fun f => .inr (2, lFs a f))) (hin : ∀ w ∈ wsJx4a65c0, w ∈ Ts) {index : Nat} (hlink : Cond.fieldLink own index RJx4a65c (TJx4a65c 1).2.1 (TJx4a65c 1).2.2.1 ∈ Ts) (hdg : decode cc pc = .ok (.getfield index, 3))
    (kk : W p l e R s m args below meth c H locs cells slots Q (F0 m (pc + 3) ls (.ref a :: rest))) : W p l e R s m args below meth c H locs cells slots Q (F0 m pc ls (.ref (ad i) :: rest)) :=
  x_get B G i hs (C := RJx4a65c) (T := TJx4a65c) (N := 3) rfl hin 1 (by omega) hlink (fun x h => h) rfl hdg kk
theorem l_recv (B : xB p s m args meth c cc nL ret Ts own D sh ad A tys) (G : xG D sh ad A s.heap V H locs) (i : Nat) {a : Nat} (hs : sh i = some (fun f => .inr (2, lFs a f))) : ∃ cell : Cell, H[ad i]? = some cell ∧ cell.vm.isStatics = false ∧ s.vm.findClass RJx4a65c = some cell.cls :=
  x_recv B G i (q := (RJx4a65c, TJx4a65c, 3)) hs rfl
end XL

set_option maxHeartbeats 4000000 in
set_option maxRecDepth 100000 in
theorem c_size (l : Launch) {D : va_G} {sh : xS} {ad : Nat → Nat} {tys : List (ClassId × FieldType)} (hI : xI sh ad) (V : xV) (i : Nat) {a : Nat} (hs : sh i = some (fun f => .inr (2, lFs a f))) : xMi l yJx4a65c_size_8abf5 wsJx4a65c_size_8abf5 (rmK 0) D sh ad tys V [.ref (ad i)] (V i 2) V := by
  refine xOfi (cc := cJx4a65c_size_8abf5) (nL := 1) (ret := some .int) (own := RJx4a65c) (by decide) rfl rfl (Nat.le_of_ble_eq_true rfl) hI ?_
  intro p e s m args below meth c A ls B G hl
  have hx := B.1.1
  have hb := B.1.2.1
  have hin : ∀ w ∈ wsJx4a65c0, w ∈ wsJx4a65c_size_8abf5 := by decide +kernel
  have hl : lv_has ls 1 [(0, .ref (ad i))] := hl
  refine lv_aload_n hx hb dJx4a65c_size_8abf5_0 rfl (lv_at hl 0 rfl) ?_
  refine l_getI B G i hs hin (by decide +kernel) dJx4a65c_size_8abf5_1 ?_
  exact x_iret B G rfl rfl dJx4a65c_size_8abf5_4
set_option maxHeartbeats 4000000 in
set_option maxRecDepth 100000 in
theorem c_chk3 (l : Launch) {D : va_G} {sh : xS} {ad : Nat → Nat} {tys : List (ClassId × FieldType)} (hI : xI sh ad) (V : xV) (j n : Nat) (hj : j < n) (hn : n < 2 ^ 31) : xMi l yJ3_checkIndex_8e157 wsJ3_checkIndex_8e157 (rmK 0) D sh ad tys V [.int (nI j), .int (nI n), .null] (nI j) V := by
  refine xOfi (cc := cJ3_checkIndex_8e157) (nL := 3) (ret := some .int) (own := RJ3) (by decide) rfl rfl (Nat.le_of_ble_eq_true rfl) hI ?_
  intro p e s m args below meth c A ls B G hl
  have hx := B.1.1
  have hb := B.1.2.1
  have hl : lv_has ls 3 [(0, .int (nI j)), (1, .int (nI n)), (2, .null)] := hl
  refine lv_iload_n hx hb dJ3_checkIndex_8e157_0 rfl (lv_at hl 0 rfl) ?_
  refine lv_if_lt (tgt := 9) hx hb dJ3_checkIndex_8e157_1 (by decide) (fun c_1 => ?_) (fun c_1 => ?_)
  · exact absurd c_1 (nI_pos (by omega))
  · refine lv_iload_n hx hb dJ3_checkIndex_8e157_4 rfl (lv_at hl 0 rfl) ?_
    refine lv_iload_n hx hb dJ3_checkIndex_8e157_5 rfl (lv_at hl 1 rfl) ?_
    refine lv_icmp_lt (tgt := 16) hx hb dJ3_checkIndex_8e157_6 (by decide) (fun c_6 => ?_) (fun c_6 => ?_)
    · refine lv_iload_n hx hb dJ3_checkIndex_8e157_16 rfl (lv_at hl 0 rfl) ?_
      exact x_iret B G rfl rfl dJ3_checkIndex_8e157_17
    · exact absurd (nI_lt hj hn) c_6
set_option maxHeartbeats 4000000 in
set_option maxRecDepth 100000 in
theorem c_chk15 (l : Launch) {D : va_G} {sh : xS} {ad : Nat → Nat} {tys : List (ClassId × FieldType)} (hI : xI sh ad) (V : xV) (j n : Nat) (hj : j < n) (hn : n < 2 ^ 31) : xMi l yJ15_checkIndex_7cf53 wsJ15_checkIndex_7cf53 (rmK 1) D sh ad tys V [.int (nI j), .int (nI n)] (nI j) V := by
  refine xOfi (cc := cJ15_checkIndex_7cf53) (nL := 2) (ret := some .int) (own := RJ15) (by decide) rfl rfl (Nat.le_of_ble_eq_true rfl) hI ?_
  intro p e s m args below meth c A ls B G hl
  have hx := B.1.1
  have hb := B.1.2.1
  have hl : lv_has ls 2 [(0, .int (nI j)), (1, .int (nI n))] := hl
  refine lv_iload_n hx hb dJ15_checkIndex_7cf53_0 rfl (lv_at hl 0 rfl) ?_
  refine lv_iload_n hx hb dJ15_checkIndex_7cf53_1 rfl (lv_at hl 1 rfl) ?_
  refine lv_null hx hb dJ15_checkIndex_7cf53_2 ?_
  refine x_callSi (rest := []) B G (c_chk3 l hI V j n hj hn) (va_cwS 3 B.1.2.2.2.2 gJ15_checkIndex_7cf53_J3_checkIndex_8e157 rfl rfl rfl (by decide +kernel) ⟨Nat.le_of_ble_eq_true rfl, Nat.le_of_ble_eq_true rfl⟩) rfl hl.1 rfl (Nat.le_of_ble_eq_true rfl) ⟨Nat.zero_le _, Nat.zero_le _⟩ dJ15_checkIndex_7cf53_3 (fun H locs G => ?_)
  exact x_iret B G rfl rfl dJ15_checkIndex_7cf53_6
set_option maxHeartbeats 4000000 in
set_option maxRecDepth 100000 in
theorem c_eld (l : Launch) {D : va_G} {sh : xS} {ad : Nat → Nat} {tys : List (ClassId × FieldType)} {cO : ClassId} (ht : tys[2]? = some (cO, .object "java/lang/Object")) (hI : xI sh ad) (V : xV) {i r n : Nat} {el : Nat → Nat} (Li : xLi sh ad cO i r n el) (j : Nat) (hj : j < n) : xMq l yJx4a65c_elementData_915e3 wsJx4a65c_elementData_915e3 (rmK 0) D sh ad tys V [.ref (ad i), .int (nI j)] (some (ad (el j))) V := by
  refine xOfq (cc := cJx4a65c_elementData_915e3) (nL := 2) (ret := some (.object "java/lang/Object")) (own := RJx4a65c) (by decide) rfl rfl (Nat.le_of_ble_eq_true rfl) hI ?_
  intro p e s m args below meth c A ls B G hl
  have hx := B.1.1
  have hb := B.1.2.1
  have hin : ∀ w ∈ wsJx4a65c0, w ∈ wsJx4a65c_elementData_915e3 := by decide +kernel
  have hl : lv_has ls 2 [(0, .ref (ad i)), (1, .int (nI j))] := hl
  obtain ⟨a, hs, hn⟩ := Li
  obtain ⟨ha, cap, g, h1, h2, h3, h4⟩ := hn (by omega)
  subst ha
  refine lv_aload_n hx hb dJx4a65c_elementData_915e3_0 rfl (lv_at hl 0 rfl) ?_
  refine l_getA B G i hs hin (by decide +kernel) dJx4a65c_elementData_915e3_1 ?_
  refine lv_iload_n hx hb dJx4a65c_elementData_915e3_4 rfl (lv_at hl 1 rfl) ?_
  refine x_aald B G r h3 2 ht j (by omega) rfl h2 dJx4a65c_elementData_915e3_5 ?_
  exact x_qret B G (Or.inl ⟨_, rfl⟩) (by rw [h4 j hj]) rfl dJx4a65c_elementData_915e3_6

set_option maxHeartbeats 4000000 in
set_option maxRecDepth 100000 in
theorem c_get (l : Launch) {D : va_G} {sh : xS} {ad : Nat → Nat} {tys : List (ClassId × FieldType)} {cO : ClassId} (ht : tys[2]? = some (cO, .object "java/lang/Object")) (hI : xI sh ad) (V : xV) {i r n : Nat} {el : Nat → Nat} (Li : xLi sh ad cO i r n el) (j : Nat) (hj : j < n) (hn : n < 2 ^ 31) (hV : V i 2 = nI n) : xMq l yJx4a65c_get_915e3 wsJx4a65c_get_915e3 (rmK 2) D sh ad tys V [.ref (ad i), .int (nI j)] (some (ad (el j))) V := by
  refine xOfq (cc := cJx4a65c_get_915e3) (nL := 2) (ret := some (.object "java/lang/Object")) (own := RJx4a65c) (by decide) rfl rfl (Nat.le_of_ble_eq_true rfl) hI ?_
  intro p e s m args below meth c A ls B G hl
  have hx := B.1.1
  have hb := B.1.2.1
  have hin : ∀ w ∈ wsJx4a65c0, w ∈ wsJx4a65c_get_915e3 := by decide +kernel
  have hl : lv_has ls 2 [(0, .ref (ad i)), (1, .int (nI j))] := hl
  obtain ⟨a, hs, hn'⟩ := id Li
  refine lv_iload_n hx hb dJx4a65c_get_915e3_0 rfl (lv_at hl 1 rfl) ?_
  refine lv_aload_n hx hb dJx4a65c_get_915e3_1 rfl (lv_at hl 0 rfl) ?_
  refine l_getI B G i hs hin (by decide +kernel) dJx4a65c_get_915e3_2 ?_
  refine x_top hV ?_
  refine x_callSi (rest := []) B G (c_chk15 l hI V j n hj hn) (va_cwS 2 B.1.2.2.2.2 gJx4a65c_get_915e3_J15_checkIndex_7cf53 rfl rfl rfl (by decide +kernel) ⟨Nat.le_of_ble_eq_true rfl, Nat.le_of_ble_eq_true rfl⟩) rfl hl.1 rfl (Nat.le_of_ble_eq_true rfl) ⟨Nat.zero_le _, Nat.zero_le _⟩ dJx4a65c_get_915e3_5 (fun H locs G => ?_)
  refine lv_pop hx hb dJx4a65c_get_915e3_8 rfl ?_
  refine lv_aload_n hx hb dJx4a65c_get_915e3_9 rfl (lv_at hl 0 rfl) ?_
  refine lv_iload_n hx hb dJx4a65c_get_915e3_10 rfl (lv_at hl 1 rfl) ?_
  refine x_callVq (rest := []) B G (c_eld l ht hI V Li j hj) (cwV 1 B.1.2.2.2.2 gJx4a65c_get_915e3_Jx4a65c_elementData_915e3 rfl rfl rfl (by decide +kernel) ⟨Nat.le_of_ble_eq_true rfl, Nat.le_of_ble_eq_true rfl⟩) (l_recv B G i hs) rfl hl.1 rfl (Nat.le_of_ble_eq_true rfl) ⟨Nat.zero_le _, Nat.zero_le _⟩ dJx4a65c_get_915e3_11 (fun H locs G => ?_)
  exact x_qret B G (Or.inl ⟨_, rfl⟩) rfl rfl dJx4a65c_get_915e3_14
/-! THE CLASS'S OBJECT -/
def dFs (ad : Nat → Nat) (f : Nat → Int32) : List Value := [.int (f 0), .ref (ad 1), .ref (ad 2), .ref (ad 3), .ref (ad 4), .ref (ad 5), .ref (ad 6)]
def xDo (sh : xS) (ad : Nat → Nat) (cI : ClassId) : Prop :=
  sh 0 = some (fun f => .inr (5, dFs ad f)) ∧ sh 1 = some (fun f => .inl (cI, 8, .inl f)) ∧ sh 2 = some (fun f => .inl (cI, 8, .inl f)) ∧ sh 3 = some (fun f => .inl (cI, 8, .inl f))
/-- n bundles sent, in the order that od tells -/
def xDl (sh : xS) (ad : Nat → Nat) (cI cZ cO : ClassId) (tys : List (ClassId × FieldType)) (n : Nat) (od : Nat → Nat) : Prop :=
  xDo sh ad cI ∧ xPl sh ad cI cZ ∧ xLi sh ad cO 4 7 n (fun k => 20 + 4 * k) ∧ xLi sh ad cO 5 8 n (fun k => 20 + 4 * od k) ∧ (∀ k, k < n → xBu sh ad cI cZ (20 + 4 * k)) ∧ (∀ k, k < n → od k < n) ∧ xCx sh ad cI cZ tys ∧ tys[2]? = some (cO, .object "java/lang/Object") ∧ n ≤ 40
section XD
variable {p : Program} {l : Launch} {e : Env} {R : Room} {s : State} {m : MethodId} {args : Array Value} {below : List Frame} {meth : Method} {c : Code} {H : Heap} {locs : List Loc} {cells slots : Nat} {Q : State → Prop}
variable {cc : ByteArray} {nL : Nat} {ret : Option FieldType} {Ts : List Cond} {own : String} {D : va_G} {sh : xS} {ad : Nat → Nat} {A : Nat → Prop} {cI cZ : ClassId} {tys : List (ClassId × FieldType)} {V : xV} {pc b : Nat} {ls : Array Slot} {rest : List Value}
theorem d_getA (B : xB p s m args meth c cc nL ret Ts own D sh ad A tys) (G : xG D sh ad A s.heap V H locs) (Dl : xDo sh ad cI) (hin : ∀ w ∈ wsX20, w ∈ Ts) (k : Nat) (hk : 1 ≤ k ∧ k < 7) {index : Nat} (hlink : Cond.fieldLink own index RX2 (TX2 k).2.1 (TX2 k).2.2.1 ∈ Ts) (hdg : decode cc pc = .ok (.getfield index, 3))
    (kk : W p l e R s m args below meth c H locs cells slots Q (F0 m (pc + 3) ls (.ref (ad k) :: rest))) : W p l e R s m args below meth c H locs cells slots Q (F0 m pc ls (.ref (ad 0) :: rest)) := by
  refine x_get B G 0 Dl.1 (C := RX2) (T := TX2) (N := 7) rfl hin k (by omega) hlink (fun x h => ?_) ?_ hdg kk
  · rcases (show k = 1 ∨ k = 2 ∨ k = 3 ∨ k = 4 ∨ k = 5 ∨ k = 6 by omega) with rfl | rfl | rfl | rfl | rfl | rfl <;> exact h
  · rcases (show k = 1 ∨ k = 2 ∨ k = 3 ∨ k = 4 ∨ k = 5 ∨ k = 6 by omega) with rfl | rfl | rfl | rfl | rfl | rfl <;> rfl
theorem d_getI (B : xB p s m args meth c cc nL ret Ts own D sh ad A tys) (G : xG D sh ad A s.heap V H locs) (Dl : xDo sh ad cI) (hin : ∀ w ∈ wsX20, w ∈ Ts) {index : Nat} (hlink : Cond.fieldLink own index RX2 (TX2 0).2.1 (TX2 0).2.2.1 ∈ Ts) (hdg : decode cc pc = .ok (.getfield index, 3))
    (kk : W p l e R s m args below meth c H locs cells slots Q (F0 m (pc + 3) ls (.int (V 0 0) :: rest))) : W p l e R s m args below meth c H locs cells slots Q (F0 m pc ls (.ref (ad 0) :: rest)) :=
  x_get B G 0 Dl.1 (C := RX2) (T := TX2) (N := 7) rfl hin 0 (by omega) hlink (fun x h => h) rfl hdg kk
theorem d_putI (B : xB p s m args meth c cc nL ret Ts own D sh ad A tys) (G : xG D sh ad A s.heap V H locs) (Dl : xDo sh ad cI) (hin : ∀ w ∈ wsX20, w ∈ Ts) {x : Int32} {index : Nat} (hlink : Cond.fieldLink own index RX2 (TX2 0).2.1 (TX2 0).2.2.1 ∈ Ts) (hdg : decode cc pc = .ok (.putfield index, 3))
    (kk : ∀ (H : Heap) (locs : List Loc), xG D sh ad A s.heap (xu V 0 0 x) H locs → W p l e R s m args below meth c H locs cells slots Q (F0 m (pc + 3) ls rest)) : W p l e R s m args below meth c H locs cells slots Q (F0 m pc ls (.int x :: .ref (ad 0) :: rest)) :=
  x_put B G 0 Dl.1 (C := RX2) (T := TX2) (N := 7) rfl hin tyX2 tyX2_ok nmX2 0 (by omega) hlink (fun x h => h) rfl (by decide +kernel) rfl (Nat.le_of_ble_eq_true rfl) hdg kk
theorem d_recv (B : xB p s m args meth c cc nL ret Ts own D sh ad A tys) (G : xG D sh ad A s.heap V H locs) (Dl : xDo sh ad cI) : ∃ cell : Cell, H[ad 0]? = some cell ∧ cell.vm.isStatics = false ∧ s.vm.findClass RX2 = some cell.cls :=
  x_recv B G 0 (q := (RX2, TX2, 7)) Dl.1 rfl
end XD
