/-! what the class's parts take out of whole's parts 10-16 -/
def rmK (k : Nat) : Room := { frames := k, cells := 0, slots := 0, locals := 40 * k }
theorem lv_cast {ls : Array Slot} {n : Nat} {l l' : List (Nat × Value)} (h : lv_has ls n l) (e : l = l') : lv_has ls n l' := e ▸ h
abbrev xQi (below : List Frame) (D : va_G) (sh : xS) (ad : Nat → Nat) (tys : List (ClassId × FieldType)) (A : Nat → Prop) (args : Array Value) (s : State) (r : Int32) (V' : xV) : State → Prop := MQ below (va_Qi (fun r' u => r' = r ∧ u = V') (xEnd D sh ad tys) A) args s 0 0 A
abbrev xQv (below : List Frame) (D : va_G) (sh : xS) (ad : Nat → Nat) (tys : List (ClassId × FieldType)) (A : Nat → Prop) (args : Array Value) (s : State) (V' : xV) : State → Prop := MQ below (va_Qv (fun u => u = V') (xEnd D sh ad tys) A) args s 0 0 A
theorem xOfi {l : Launch} {y : MethodName} {ws ws' : List Cond} {rm : Room} {D : va_G} {sh : xS} {ad : Nat → Nat} {tys : List (ClassId × FieldType)} {V : xV} {av : List Value} {cc : ByteArray} {nL : Nat} {ret : Option FieldType} {own : String} {r : Int32} {V' : xV}
    (hy : plainName y.cls = true) (ho : y.cls = own) (hw : ws = Cond.code y cc nL ret :: ws') (hlen : (lg_sl av).length ≤ nL) (hI : xI sh ad)
    (body : ∀ (p : Program) (e : Env) (s : State) (m : MethodId) (args : Array Value) (below : List Frame) (meth : Method) (c : Code) (A : Nat → Prop) (ls : Array Slot), xB p s m args meth c cc nL ret ws own D sh ad A tys → xG D sh ad A s.heap V s.heap [] → lv_has ls nL (lv_args 0 av) → W p l e rm s m args below meth c s.heap [] 0 0 (xQi below D sh ad tys A args s r V') (F0 m 0 ls [])) :
    xMi l y ws rm D sh ad tys V av r V' := fun sz =>
  xOf (Qc := fun A => va_Qi (fun r' u => r' = r ∧ u = V') (xEnd D sh ad tys) A) hy ho hw hlen hI (fun p e s m below meth c A ls _ B G h => body p e s m _ below meth c A ls B G h) sz
theorem xOfv {l : Launch} {y : MethodName} {ws ws' : List Cond} {rm : Room} {D : va_G} {sh : xS} {ad : Nat → Nat} {tys : List (ClassId × FieldType)} {V : xV} {av : List Value} {cc : ByteArray} {nL : Nat} {ret : Option FieldType} {own : String} {V' : xV}
    (hy : plainName y.cls = true) (ho : y.cls = own) (hw : ws = Cond.code y cc nL ret :: ws') (hlen : (lg_sl av).length ≤ nL) (hI : xI sh ad)
    (body : ∀ (p : Program) (e : Env) (s : State) (m : MethodId) (args : Array Value) (below : List Frame) (meth : Method) (c : Code) (A : Nat → Prop) (ls : Array Slot), xB p s m args meth c cc nL ret ws own D sh ad A tys → xG D sh ad A s.heap V s.heap [] → lv_has ls nL (lv_args 0 av) → W p l e rm s m args below meth c s.heap [] 0 0 (xQv below D sh ad tys A args s V') (F0 m 0 ls [])) :
    xMv l y ws rm D sh ad tys V av V' := fun sz =>
  xOf (Qc := fun A => va_Qv (fun u => u = V') (xEnd D sh ad tys) A) hy ho hw hlen hI (fun p e s m below meth c A ls _ B G h => body p e s m _ below meth c A ls B G h) sz
/-! numbers -/
theorem i_lt (a b : Int32) : a < b ↔ a.toInt < b.toInt := Int32.lt_iff_toInt_lt
theorem i_le (a b : Int32) : a ≤ b ↔ a.toInt ≤ b.toInt := Int32.le_iff_toInt_le
theorem i_eq (a b : Int32) : a = b ↔ a.toInt = b.toInt := Int32.toInt_inj.symm
theorem b2i_t {P : Prop} [Decidable P] (h : P) : b2i P = 1 := by unfold b2i; exact if_pos h
theorem b2i_f {P : Prop} [Decidable P] (h : ¬ P) : b2i P = 0 := by unfold b2i; exact if_neg h
theorem b2i_0 {P : Prop} [Decidable P] : b2i P = 0 ↔ ¬ P := by
  by_cases h : P
  · rw [b2i_t h]; simp [h]
  · rw [b2i_f h]; simp [h]
theorem b2i_01 (P : Prop) [Decidable P] : b2i P = 0 ∨ b2i P = 1 := by
  by_cases h : P
  · exact Or.inr (b2i_t h)
  · exact Or.inl (b2i_f h)
/-- how many k < n have it -/
def cntP (P : Nat → Bool) : Nat → Nat
  | 0 => 0
  | n + 1 => cntP P n + if P n = true then 1 else 0
theorem cntP_le (P : Nat → Bool) (n : Nat) : cntP P n ≤ n := by
  induction n with
  | zero => exact Nat.le_refl 0
  | succ n ih => unfold cntP; split <;> omega
theorem cntP_t {P : Nat → Bool} {n : Nat} (h : P n = true) : cntP P (n + 1) = cntP P n + 1 := by
  show cntP P n + _ = _
  rw [if_pos h]
theorem cntP_f {P : Nat → Bool} {n : Nat} (h : ¬ P n = true) : cntP P (n + 1) = cntP P n := by
  show cntP P n + _ = _
  rw [if_neg h]; rfl
theorem i_nle {a b : Int32} : ¬ a ≤ b ↔ b < a := by rw [i_le, i_lt]; omega
theorem i_nlt {a b : Int32} : ¬ a < b ↔ b ≤ a := by rw [i_le, i_lt]; omega
/-- none as -1, k as k - 1 -/
def oI (k : Nat) : Int32 := if k = 0 then -1 else nI (k - 1)
theorem oI_neg {k : Nat} (h : k < 2 ^ 31) : oI k < 0 ↔ k = 0 := by
  unfold oI
  by_cases c : k = 0
  · rw [if_pos c]; simp [c]
  · rw [if_neg c]
    simp only [c, iff_false]
    exact nI_pos (by omega)
theorem b2i_true : b2i (true = true) = 1 := b2i_t rfl
theorem b2i_false : b2i (false = true) = 0 := b2i_f (by decide)
theorem cntP_congr {P R : Nat → Bool} {n : Nat} (h : ∀ i, i < n → P i = R i) : cntP P n = cntP R n := by
  induction n with
  | zero => rfl
  | succ n ih =>
    unfold cntP
    rw [ih (fun i hi => h i (by omega)), h n (by omega)]
theorem b2i_1 {P : Prop} [Decidable P] (h : ¬ b2i P = 0) : P := Decidable.byContradiction (fun c => h (b2i_0.mpr c))
theorem nodeOK {n : Nat} (h : n < 8) : 0 ≤ nI n ∧ nI n ≤ 7 := ⟨nI_pos' (by omega), nI_le (show n ≤ 7 by omega) (by decide)⟩
theorem oI_c {m : Nat} (h : m ≠ 0) : oI m = nI (m - 1) := if_neg h
