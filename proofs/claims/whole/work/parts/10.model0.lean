/-! THE REFERENCE'S WORLD: arrays 0 .. 16 (goal rank end keeper came way has steps told places lost spurned plan job giver best fixed), the object 17 (its ints: 17 count, 18 contacts, 19 time, 20 thrown) -/
def mFs (ad : Nat → Nat) (f : Nat → Int32) : List Value := [.ref (ad 0), .ref (ad 1), .ref (ad 2), .ref (ad 3), .ref (ad 4), .ref (ad 5), .ref (ad 6), .ref (ad 7), .ref (ad 8), .ref (ad 9), .ref (ad 10), .ref (ad 11), .ref (ad 12), .ref (ad 13), .ref (ad 14), .ref (ad 15), .ref (ad 16), .int (f 17), .int (f 18), .int (f 19), .int (f 20)]
def mLen (k : Nat) : Nat := if k < 6 then 40 else if k < 9 then 320 else if k < 12 then 8 else if k < 13 then 120 else if k < 15 then 80 else 8
theorem mLen_lt (k : Nat) : mLen k < 2 ^ 31 := by
  unfold mLen
  repeat' split
  all_goals decide
def xMod (sh : xS) (ad : Nat → Nat) (cI : ClassId) : Prop := sh 17 = some (fun f => .inr (6, mFs ad f)) ∧ ∀ k, k < 17 → sh k = some (fun f => .inl (cI, mLen k, .inl f))
/-- what a method of the reference may take as given of the world's form -/
def xMm (sh : xS) (ad : Nat → Nat) (cI : ClassId) (tys : List (ClassId × FieldType)) : Prop := tys[0]? = some (cI, .int) ∧ xMod sh ad cI ∧ xI sh ad
def rmK (k : Nat) : Room := { frames := k, cells := 0, slots := 0, locals := 40 * k }
theorem lv_cast {ls : Array Slot} {n : Nat} {l l' : List (Nat × Value)} (h : lv_has ls n l) (e : l = l') : lv_has ls n l' := e ▸ h
abbrev xQi (below : List Frame) (D : va_G) (sh : xS) (ad : Nat → Nat) (tys : List (ClassId × FieldType)) (A : Nat → Prop) (args : Array Value) (s : State) (r : Int32) (V' : xV) : State → Prop := MQ below (va_Qi (fun r' u => r' = r ∧ u = V') (xEnd D sh ad tys) A) args s 0 0 A
abbrev xQv (below : List Frame) (D : va_G) (sh : xS) (ad : Nat → Nat) (tys : List (ClassId × FieldType)) (A : Nat → Prop) (args : Array Value) (s : State) (V' : xV) : State → Prop := MQ below (va_Qv (fun u => u = V') (xEnd D sh ad tys) A) args s 0 0 A
theorem xOfi {l : Launch} {y : MethodName} {ws ws' : List Cond} {rm : Room} {D : va_G} {sh : xS} {ad : Nat → Nat} {tys : List (ClassId × FieldType)} {V : xV} {av : List Value} {cc : ByteArray} {nL : Nat} {ret : Option FieldType} {own : String} {r : Int32} {V' : xV}
    (hy : plainName y.cls = true) (ho : y.cls = own) (hw : ws = Cond.code y cc nL ret :: ws') (hlen : (lg_sl av).length ≤ nL) (hI : xI sh ad)
    (body : ∀ (p : Program) (e : Env) (s : State) (m : MethodId) (args : Array Value) (below : List Frame) (meth : Method) (c : Code) (A : Nat → Prop) (ls : Array Slot), xB p s m args meth c cc nL ret ws own D sh ad A tys → xG D sh ad A s.heap V s.heap [] → lv_has ls nL (lv_args 0 av) → W p l e rm s m args below meth c s.heap [] 0 0 (xQi below D sh ad tys A args s r V') (F0 m 0 ls [])) :
    xMi l y ws rm D sh ad tys V av r V' := fun sz =>
  xOf (Qc := fun A => va_Qi (fun r' u => r' = r ∧ u = V') (xEnd D sh ad tys) A) hy ho hw hlen hI (fun p e s m below meth c A ls _ B G h => body p e s m _ below meth c A ls B G h) sz
theorem xOfv {l : Launch} {y : MethodName} {ws ws' : List Cond} {rm : Room} {D : va_G} {sh : xS} {ad : Nat → Nat} {tys : List (ClassId × FieldType)} {V : xV} {av : List Value} {cc : ByteArray} {nL : Nat} {ret : Option FieldType} {own : String} {V' : xV}
    (hy : plainName y.cls = true) (ho : y.cls = own) (hw : ws = Cond.code y cc nL ret :: ws') (hlen : (lg_sl av).length ≤ nL) (hI : xI sh ad)
    (body : ∀ (p : Program) (e : Env) (s : State) (m : MethodId) (args : Array Value) (below : List Frame) (meth : Method) (c : Code) (A : Nat → Prop) (ls : Array Slot), xB p s m args meth c cc nL ret ws own D sh ad A tys → xG D sh ad A s.heap V s.heap [] → lv_has ls nL (lv_args 0 av) → W p l e rm s m args below meth c s.heap [] 0 0 (xQv below D sh ad tys A args s V') (F0 m 0 ls [])) :
    xMv l y ws rm D sh ad tys V av V' := fun sz =>
  xOf (Qc := fun A => va_Qv (fun u => u = V') (xEnd D sh ad tys) A) hy ho hw hlen hI (fun p e s m below meth c A ls _ B G h => body p e s m _ below meth c A ls B G h) sz
section XM
variable {p : Program} {l : Launch} {e : Env} {R : Room} {s : State} {m : MethodId} {args : Array Value} {below : List Frame} {meth : Method} {c : Code} {H : Heap} {locs : List Loc} {cells slots : Nat} {Q : State → Prop}
variable {cc : ByteArray} {nL : Nat} {ret : Option FieldType} {Ts : List Cond} {D : va_G} {sh : xS} {ad : Nat → Nat} {A : Nat → Prop} {cI : ClassId} {tys : List (ClassId × FieldType)} {V : xV} {pc : Nat} {ls : Array Slot} {rest : List Value}
/-- getfield of an array of the reference -/
theorem m_getA (B : xB p s m args meth c cc nL ret Ts RX3 D sh ad A tys) (G : xG D sh ad A s.heap V H locs) (M : xMm sh ad cI tys) (hin : ∀ w ∈ wsX30, w ∈ Ts) (k : Nat) (hk : k < 17) {index : Nat} (hlink : Cond.fieldLink RX3 index RX3 (TX3 k).2.1 (TX3 k).2.2.1 ∈ Ts) (hdg : decode cc pc = .ok (.getfield index, 3))
    (kk : W p l e R s m args below meth c H locs cells slots Q (F0 m (pc + 3) ls (.ref (ad k) :: rest))) : W p l e R s m args below meth c H locs cells slots Q (F0 m pc ls (.ref (ad 17) :: rest)) := by
  refine x_get B G 17 M.2.1.1 (C := RX3) (T := TX3) (N := 21) rfl hin k (by omega) hlink (fun x h => ?_) ?_ hdg kk
  · rcases (show k = 0 ∨ k = 1 ∨ k = 2 ∨ k = 3 ∨ k = 4 ∨ k = 5 ∨ k = 6 ∨ k = 7 ∨ k = 8 ∨ k = 9 ∨ k = 10 ∨ k = 11 ∨ k = 12 ∨ k = 13 ∨ k = 14 ∨ k = 15 ∨ k = 16 by omega) with rfl | rfl | rfl | rfl | rfl | rfl | rfl | rfl | rfl | rfl | rfl | rfl | rfl | rfl | rfl | rfl | rfl <;> exact h
  · rcases (show k = 0 ∨ k = 1 ∨ k = 2 ∨ k = 3 ∨ k = 4 ∨ k = 5 ∨ k = 6 ∨ k = 7 ∨ k = 8 ∨ k = 9 ∨ k = 10 ∨ k = 11 ∨ k = 12 ∨ k = 13 ∨ k = 14 ∨ k = 15 ∨ k = 16 by omega) with rfl | rfl | rfl | rfl | rfl | rfl | rfl | rfl | rfl | rfl | rfl | rfl | rfl | rfl | rfl | rfl | rfl <;> rfl
theorem m_getI (B : xB p s m args meth c cc nL ret Ts RX3 D sh ad A tys) (G : xG D sh ad A s.heap V H locs) (M : xMm sh ad cI tys) (hin : ∀ w ∈ wsX30, w ∈ Ts) (k : Nat) (hk : 17 ≤ k ∧ k < 21) {index : Nat} (hlink : Cond.fieldLink RX3 index RX3 (TX3 k).2.1 (TX3 k).2.2.1 ∈ Ts) (hdg : decode cc pc = .ok (.getfield index, 3))
    (kk : W p l e R s m args below meth c H locs cells slots Q (F0 m (pc + 3) ls (.int (V 17 k) :: rest))) : W p l e R s m args below meth c H locs cells slots Q (F0 m pc ls (.ref (ad 17) :: rest)) := by
  refine x_get B G 17 M.2.1.1 (C := RX3) (T := TX3) (N := 21) rfl hin k (by omega) hlink (fun x h => ?_) ?_ hdg kk
  · rcases (show k = 17 ∨ k = 18 ∨ k = 19 ∨ k = 20 by omega) with rfl | rfl | rfl | rfl <;> exact h
  · rcases (show k = 17 ∨ k = 18 ∨ k = 19 ∨ k = 20 by omega) with rfl | rfl | rfl | rfl <;> rfl
theorem m_putI (B : xB p s m args meth c cc nL ret Ts RX3 D sh ad A tys) (G : xG D sh ad A s.heap V H locs) (M : xMm sh ad cI tys) (hin : ∀ w ∈ wsX30, w ∈ Ts) (k : Nat) (hk : 17 ≤ k ∧ k < 21) {x : Int32} {index : Nat} (hlink : Cond.fieldLink RX3 index RX3 (TX3 k).2.1 (TX3 k).2.2.1 ∈ Ts) (hdg : decode cc pc = .ok (.putfield index, 3))
    (kk : ∀ (H : Heap) (locs : List Loc), xG D sh ad A s.heap (xu V 17 k x) H locs → W p l e R s m args below meth c H locs cells slots Q (F0 m (pc + 3) ls rest)) : W p l e R s m args below meth c H locs cells slots Q (F0 m pc ls (.int x :: .ref (ad 17) :: rest)) := by
  refine x_put B G 17 M.2.1.1 (C := RX3) (T := TX3) (N := 21) rfl hin tyX3 tyX3_ok nmX3 k (by omega) hlink (fun x h => ?_) ?_ ?_ ?_ ?_ hdg kk
  · rcases (show k = 17 ∨ k = 18 ∨ k = 19 ∨ k = 20 by omega) with rfl | rfl | rfl | rfl <;> exact h
  · rcases (show k = 17 ∨ k = 18 ∨ k = 19 ∨ k = 20 by omega) with rfl | rfl | rfl | rfl <;> rfl
  · rcases (show k = 17 ∨ k = 18 ∨ k = 19 ∨ k = 20 by omega) with rfl | rfl | rfl | rfl <;> decide +kernel
  · rcases (show k = 17 ∨ k = 18 ∨ k = 19 ∨ k = 20 by omega) with rfl | rfl | rfl | rfl <;> rfl
  · show k < 21
    omega
theorem m_ald (B : xB p s m args meth c cc nL ret Ts RX3 D sh ad A tys) (G : xG D sh ad A s.heap V H locs) (M : xMm sh ad cI tys) (k : Nat) (hk : k < 17) (j : Nat) {x : Int32} (hj : j < mLen k) (hx : x = nI j) (hdg : decode cc pc = .ok (.iaload, 1))
    (kk : W p l e R s m args below meth c H locs cells slots Q (F0 m (pc + 1) ls (.int (V k j) :: rest))) : W p l e R s m args below meth c H locs cells slots Q (F0 m pc ls (.int x :: .ref (ad k) :: rest)) :=
  x_ald B G k (M.2.1.2 k hk) 0 M.1 j hj hx (mLen_lt k) hdg kk
theorem m_ast (B : xB p s m args meth c cc nL ret Ts RX3 D sh ad A tys) (G : xG D sh ad A s.heap V H locs) (M : xMm sh ad cI tys) (k : Nat) (hk : k < 17) (j : Nat) {x v : Int32} (hj : j < mLen k) (hx : x = nI j) (hdg : decode cc pc = .ok (.iastore, 1))
    (kk : ∀ (H : Heap) (locs : List Loc), xG D sh ad A s.heap (xu V k j v) H locs → W p l e R s m args below meth c H locs cells slots Q (F0 m (pc + 1) ls rest)) : W p l e R s m args below meth c H locs cells slots Q (F0 m pc ls (.int v :: .int x :: .ref (ad k) :: rest)) :=
  x_ast B G k (M.2.1.2 k hk) 0 M.1 j hj hx (mLen_lt k) hdg kk
theorem m_recv (B : xB p s m args meth c cc nL ret Ts RX3 D sh ad A tys) (G : xG D sh ad A s.heap V H locs) (M : xMm sh ad cI tys) : ∃ cell : Cell, H[ad 17]? = some cell ∧ cell.vm.isStatics = false ∧ s.vm.findClass RX3 = some cell.cls :=
  x_recv B G 17 (q := (RX3, TX3, 21)) M.2.1.1 rfl
end XM
/-! numbers -/
theorem i_lt (a b : Int32) : a < b ↔ a.toInt < b.toInt := Int32.lt_iff_toInt_lt
theorem i_le (a b : Int32) : a ≤ b ↔ a.toInt ≤ b.toInt := Int32.le_iff_toInt_le
theorem i_eq (a b : Int32) : a = b ↔ a.toInt = b.toInt := Int32.toInt_inj.symm
theorem b2i_t {P : Prop} [Decidable P] (h : P) : b2i P = 1 := by unfold b2i; exact if_pos h
theorem b2i_f {P : Prop} [Decidable P] (h : ¬ P) : b2i P = 0 := by unfold b2i; exact if_neg h
theorem b2i_0 {P : Prop} [Decidable P] : b2i P = 0 ↔ ¬ P := by
  by_cases h : P
  · rw [b2i_t h]; simp [h]
  · rw [b2i_f h]; simp [h]
theorem b2i_01 (P : Prop) [Decidable P] : b2i P = 0 ∨ b2i P = 1 := by
  by_cases h : P
  · exact Or.inr (b2i_t h)
  · exact Or.inl (b2i_f h)
/-- how many k < n have it -/
def cntP (P : Nat → Bool) : Nat → Nat
  | 0 => 0
  | n + 1 => cntP P n + if P n = true then 1 else 0
theorem cntP_le (P : Nat → Bool) (n : Nat) : cntP P n ≤ n := by
  induction n with
  | zero => exact Nat.le_refl 0
  | succ n ih => unfold cntP; split <;> omega
