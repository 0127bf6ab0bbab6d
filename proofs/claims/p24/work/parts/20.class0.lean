/-! THE CLASS'S WORLD. Names: 0 the object (its int: 0 now), 1 places, 2 drops, 3 refusals, 4 the list sent, 5 the list ordered, 6 the plan (its int: 6 size), 7, 8 the lists' rows, 9 nodes, 10 others, 11 firsts, 12 lasts, 13 reached, 14 settled; the bundle k: b = 20 + 4 k the object (ints 0 number, 1 destination, 2 priority, 3 end, 7 custodian, 8 deliverySecond, 9 deliveryHops, 10 giver), b + 1 copiesAt, b + 2 hopsAt, b + 3 knownAt -/
def bFs (ad : Nat → Nat) (b : Nat) (f : Nat → Int32) : List Value := [.int (f 0), .int (f 1), .int (f 2), .int (f 3), .ref (ad (b + 1)), .ref (ad (b + 2)), .ref (ad (b + 3)), .int (f 7), .int (f 8), .int (f 9), .int (f 10)]
def xBu (sh : xS) (ad : Nat → Nat) (cI cZ : ClassId) (b : Nat) : Prop :=
  sh b = some (fun f => .inr (3, bFs ad b f)) ∧ sh (b + 1) = some (fun f => .inl (cI, 8, .inl f)) ∧ sh (b + 2) = some (fun f => .inl (cI, 8, .inl f)) ∧ sh (b + 3) = some (fun f => .inl (cZ, 8, .inl f))
def pFs (ad : Nat → Nat) (f : Nat → Int32) : List Value := [.ref (ad 9), .ref (ad 10), .ref (ad 11), .ref (ad 12), .ref (ad 13), .ref (ad 14), .int (f 6)]
def xPl (sh : xS) (ad : Nat → Nat) (cI cZ : ClassId) : Prop :=
  sh 6 = some (fun f => .inr (4, pFs ad f)) ∧ sh 9 = some (fun f => .inl (cI, 30, .inl f)) ∧ sh 10 = some (fun f => .inl (cI, 30, .inl f)) ∧ sh 11 = some (fun f => .inl (cI, 30, .inl f)) ∧ sh 12 = some (fun f => .inl (cI, 30, .inl f)) ∧ sh 13 = some (fun f => .inl (cI, 8, .inl f)) ∧ sh 14 = some (fun f => .inl (cZ, 8, .inl f))
/-- the array classes, and that names are apart -/
def xCx (sh : xS) (ad : Nat → Nat) (cI cZ : ClassId) (tys : List (ClassId × FieldType)) : Prop := tys[0]? = some (cI, .int) ∧ tys[1]? = some (cZ, .boolean) ∧ xI sh ad
section XC
variable {p : Program} {l : Launch} {e : Env} {R : Room} {s : State} {m : MethodId} {args : Array Value} {below : List Frame} {meth : Method} {c : Code} {H : Heap} {locs : List Loc} {cells slots : Nat} {Q : State → Prop}
variable {cc : ByteArray} {nL : Nat} {ret : Option FieldType} {Ts : List Cond} {own : String} {D : va_G} {sh : xS} {ad : Nat → Nat} {A : Nat → Prop} {cI cZ : ClassId} {tys : List (ClassId × FieldType)} {V : xV} {pc b : Nat} {ls : Array Slot} {rest : List Value}
theorem b_getA (B : xB p s m args meth c cc nL ret Ts own D sh ad A tys) (G : xG D sh ad A s.heap V H locs) (Bu : xBu sh ad cI cZ b) (hin : ∀ w ∈ wsX00, w ∈ Ts) (k : Nat) (hk : 4 ≤ k ∧ k < 7) {index : Nat} (hlink : Cond.fieldLink own index RX0 (TX0 k).2.1 (TX0 k).2.2.1 ∈ Ts) (hdg : decode cc pc = .ok (.getfield index, 3))
    (kk : W p l e R s m args below meth c H locs cells slots Q (F0 m (pc + 3) ls (.ref (ad (b + (k - 3))) :: rest))) : W p l e R s m args below meth c H locs cells slots Q (F0 m pc ls (.ref (ad b) :: rest)) := by
  refine x_get B G b Bu.1 (C := RX0) (T := TX0) (N := 11) rfl hin k (by omega) hlink (fun x h => ?_) ?_ hdg kk
  · rcases (show k = 4 ∨ k = 5 ∨ k = 6 by omega) with rfl | rfl | rfl <;> exact h
  · rcases (show k = 4 ∨ k = 5 ∨ k = 6 by omega) with rfl | rfl | rfl <;> rfl
theorem b_getI (B : xB p s m args meth c cc nL ret Ts own D sh ad A tys) (G : xG D sh ad A s.heap V H locs) (Bu : xBu sh ad cI cZ b) (hin : ∀ w ∈ wsX00, w ∈ Ts) (k : Nat) (hk : k < 4 ∨ (7 ≤ k ∧ k < 11)) {index : Nat} (hlink : Cond.fieldLink own index RX0 (TX0 k).2.1 (TX0 k).2.2.1 ∈ Ts) (hdg : decode cc pc = .ok (.getfield index, 3))
    (kk : W p l e R s m args below meth c H locs cells slots Q (F0 m (pc + 3) ls (.int (V b k) :: rest))) : W p l e R s m args below meth c H locs cells slots Q (F0 m pc ls (.ref (ad b) :: rest)) := by
  refine x_get B G b Bu.1 (C := RX0) (T := TX0) (N := 11) rfl hin k (by omega) hlink (fun x h => ?_) ?_ hdg kk
  · rcases (show k = 0 ∨ k = 1 ∨ k = 2 ∨ k = 3 ∨ k = 7 ∨ k = 8 ∨ k = 9 ∨ k = 10 by omega) with rfl | rfl | rfl | rfl | rfl | rfl | rfl | rfl <;> exact h
  · rcases (show k = 0 ∨ k = 1 ∨ k = 2 ∨ k = 3 ∨ k = 7 ∨ k = 8 ∨ k = 9 ∨ k = 10 by omega) with rfl | rfl | rfl | rfl | rfl | rfl | rfl | rfl <;> rfl
theorem b_putI (B : xB p s m args meth c cc nL ret Ts own D sh ad A tys) (G : xG D sh ad A s.heap V H locs) (Bu : xBu sh ad cI cZ b) (hin : ∀ w ∈ wsX00, w ∈ Ts) (k : Nat) (hk : 7 ≤ k ∧ k < 11) {x : Int32} {index : Nat} (hlink : Cond.fieldLink own index RX0 (TX0 k).2.1 (TX0 k).2.2.1 ∈ Ts) (hdg : decode cc pc = .ok (.putfield index, 3))
    (kk : ∀ (H : Heap) (locs : List Loc), xG D sh ad A s.heap (xu V b k x) H locs → W p l e R s m args below meth c H locs cells slots Q (F0 m (pc + 3) ls rest)) : W p l e R s m args below meth c H locs cells slots Q (F0 m pc ls (.int x :: .ref (ad b) :: rest)) := by
  refine x_put B G b Bu.1 (C := RX0) (T := TX0) (N := 11) rfl hin tyX0 tyX0_ok nmX0 k (by omega) hlink (fun x h => ?_) ?_ ?_ ?_ ?_ hdg kk
  · rcases (show k = 7 ∨ k = 8 ∨ k = 9 ∨ k = 10 by omega) with rfl | rfl | rfl | rfl <;> exact h
  · rcases (show k = 7 ∨ k = 8 ∨ k = 9 ∨ k = 10 by omega) with rfl | rfl | rfl | rfl <;> rfl
  · rcases (show k = 7 ∨ k = 8 ∨ k = 9 ∨ k = 10 by omega) with rfl | rfl | rfl | rfl <;> decide +kernel
  · rcases (show k = 7 ∨ k = 8 ∨ k = 9 ∨ k = 10 by omega) with rfl | rfl | rfl | rfl <;> rfl
  · show k < 11
    omega
theorem b_recv (B : xB p s m args meth c cc nL ret Ts own D sh ad A tys) (G : xG D sh ad A s.heap V H locs) (Bu : xBu sh ad cI cZ b) : ∃ cell : Cell, H[ad b]? = some cell ∧ cell.vm.isStatics = false ∧ s.vm.findClass RX0 = some cell.cls :=
  x_recv B G b (q := (RX0, TX0, 11)) Bu.1 rfl
theorem p_getA (B : xB p s m args meth c cc nL ret Ts own D sh ad A tys) (G : xG D sh ad A s.heap V H locs) (Pl : xPl sh ad cI cZ) (hin : ∀ w ∈ wsX10, w ∈ Ts) (k : Nat) (hk : k < 6) {index : Nat} (hlink : Cond.fieldLink own index RX1 (TX1 k).2.1 (TX1 k).2.2.1 ∈ Ts) (hdg : decode cc pc = .ok (.getfield index, 3))
    (kk : W p l e R s m args below meth c H locs cells slots Q (F0 m (pc + 3) ls (.ref (ad (9 + k)) :: rest))) : W p l e R s m args below meth c H locs cells slots Q (F0 m pc ls (.ref (ad 6) :: rest)) := by
  refine x_get B G 6 Pl.1 (C := RX1) (T := TX1) (N := 7) rfl hin k (by omega) hlink (fun x h => ?_) ?_ hdg kk
  · rcases (show k = 0 ∨ k = 1 ∨ k = 2 ∨ k = 3 ∨ k = 4 ∨ k = 5 by omega) with rfl | rfl | rfl | rfl | rfl | rfl <;> exact h
  · rcases (show k = 0 ∨ k = 1 ∨ k = 2 ∨ k = 3 ∨ k = 4 ∨ k = 5 by omega) with rfl | rfl | rfl | rfl | rfl | rfl <;> rfl
theorem p_getI (B : xB p s m args meth c cc nL ret Ts own D sh ad A tys) (G : xG D sh ad A s.heap V H locs) (Pl : xPl sh ad cI cZ) (hin : ∀ w ∈ wsX10, w ∈ Ts) {index : Nat} (hlink : Cond.fieldLink own index RX1 (TX1 6).2.1 (TX1 6).2.2.1 ∈ Ts) (hdg : decode cc pc = .ok (.getfield index, 3))
    (kk : W p l e R s m args below meth c H locs cells slots Q (F0 m (pc + 3) ls (.int (V 6 6) :: rest))) : W p l e R s m args below meth c H locs cells slots Q (F0 m pc ls (.ref (ad 6) :: rest)) :=
  x_get B G 6 Pl.1 (C := RX1) (T := TX1) (N := 7) rfl hin 6 (by omega) hlink (fun x h => h) rfl hdg kk
theorem p_putI (B : xB p s m args meth c cc nL ret Ts own D sh ad A tys) (G : xG D sh ad A s.heap V H locs) (Pl : xPl sh ad cI cZ) (hin : ∀ w ∈ wsX10, w ∈ Ts) {x : Int32} {index : Nat} (hlink : Cond.fieldLink own index RX1 (TX1 6).2.1 (TX1 6).2.2.1 ∈ Ts) (hdg : decode cc pc = .ok (.putfield index, 3))
    (kk : ∀ (H : Heap) (locs : List Loc), xG D sh ad A s.heap (xu V 6 6 x) H locs → W p l e R s m args below meth c H locs cells slots Q (F0 m (pc + 3) ls rest)) : W p l e R s m args below meth c H locs cells slots Q (F0 m pc ls (.int x :: .ref (ad 6) :: rest)) :=
  x_put B G 6 Pl.1 (C := RX1) (T := TX1) (N := 7) rfl hin tyX1 tyX1_ok nmX1 6 (by omega) hlink (fun x h => h) rfl (by decide +kernel) rfl (Nat.le_of_ble_eq_true rfl) hdg kk
theorem p_recv (B : xB p s m args meth c cc nL ret Ts own D sh ad A tys) (G : xG D sh ad A s.heap V H locs) (Pl : xPl sh ad cI cZ) : ∃ cell : Cell, H[ad 6]? = some cell ∧ cell.vm.isStatics = false ∧ s.vm.findClass RX1 = some cell.cls :=
  x_recv B G 6 (q := (RX1, TX1, 7)) Pl.1 rfl
/-- Math.max, Math.min -/
theorem x_mmax (B : xB p s m args meth c cc nL ret Ts own D sh ad A tys) {index : Nat} {x y : Int32} (hsz : ls.size = nL) (hlink : Cond.methodLink own index Lib.Math.max.name ∈ Ts) (hstat : Cond.static Lib.Math.max.name ∈ Ts) (hinit : Cond.initialized "java/lang/Math" ∈ Ts) (hcode : Cond.code Lib.Math.max.name Lib.Math.max.code 2 (some .int) ∈ Ts)
    (hdg : decode cc pc = .ok (.invokestatic index, 3)) (hfr : 1 ≤ R.frames) (hlo : (rest.map fun v => v.category).sum + 13 ≤ R.locals) (hcs : cells ≤ R.cells ∧ slots ≤ R.slots)
    (kk : W p l e R s m args below meth c H locs cells slots Q (F0 m (pc + 3) ls (.int (if x < y then y else x) :: rest))) : W p l e R s m args below meth c H locs cells slots Q (F0 m pc ls (.int y :: .int x :: rest)) := by
  obtain ⟨⟨hx, hb, hml, hown, hts⟩, -⟩ := B
  intro T hT X
  obtain ⟨vm', X', st⟩ := va_mathMaxV X hx hown (hts _ hlink) (hts _ hstat) (hts _ hinit) (hts _ hcode) (g := F0 m pc ls (.int y :: .int x :: rest)) rfl (by rw [hml]; exact hsz) rfl (by rw [hb]; exact hdg) hfr (by show 2 * 0 + _ + 13 ≤ _; omega) hcs.1 hcs.2
  obtain ⟨t, a1, b1⟩ := kk (T.setVm vm') hT X'
  exact ⟨t, st t a1, b1⟩
end XC
