/-! WHAT THE CALLS THAT ASK ANSWER, in a world W that differs from V at most in the rows of arrivals and in two rows of the law -/
def TS (V W : xV) : Prop := ∀ i, i ≠ 13 → i ≠ 14 → i ≠ 18 → i ≠ 19 → W i = V i
theorem TS.refl (V : xV) : TS V V := fun _ _ _ _ _ => rfl
theorem TS.trans {V W U : xV} (h : TS V W) (g : TS W U) : TS V U := fun i a b c d => (g i a b c d).trans (h i a b c d)
theorem TS.big {V W : xV} (h : TS V W) {i : Nat} (hi : 20 ≤ i) : W i = V i := h i (by omega) (by omega) (by omega) (by omega)
theorem TS.pe {V W : xV} (h : TS V W) : PE V W := ⟨h 9 (by decide) (by decide) (by decide) (by decide), h 10 (by decide) (by decide) (by decide) (by decide), h 11 (by decide) (by decide) (by decide) (by decide), h 12 (by decide) (by decide) (by decide) (by decide)⟩
theorem TS.zero {V W : xV} (h : TS V W) : W 0 = V 0 := h 0 (by decide) (by decide) (by decide) (by decide)
theorem TS.inv {V W : xV} {t nb nc : Nat} {od S : Nat → Nat} (h : TS V W) (hI : INV t nb nc od S V) : INV t nb nc od S W := hI.sc (fun i hi => h i (by omega) (by omega) (by omega) (by omega))
theorem TS.fin {V W : xV} (h : TS V W) (n d nc : Nat) (t : Int32) : TS V (pFin W n d nc t) := fun i a b c e => by rw [pFin_o _ _ _ _ _ a b]; exact h i a b c e
theorem TS.all {V W : xV} (h : TS V W) (n nc : Nat) (t : Int32) : TS V (pAll W n nc t) := fun i a b c e => by rw [pAll_o _ _ _ _ a b]; exact h i a b c e
theorem TS.row {V W : xV} (h : TS V W) {i : Nat} (hi : i = 18 ∨ i = 19) (k : Nat) (x : Int32) : TS V (xu W i k x) := fun j a b c e => by
  rw [xu_ne _ _ _ (by omega)]; exact h j a b c e
/-- the arrival, as it is answered -/
def aQ (V : xV) (nc n d : Nat) : Int32 := if pFin V n d nc (V 0 0) 13 d = NEV then -1 else pFin V n d nc (V 0 0) 13 d
def bD (V : xV) (k : Nat) : Nat := (V (20 + 4 * k) 1).toNatClampNeg
/-- the earliest from those ahead of n that have it -/
def eQ (V : xV) (nc k : Nat) : Nat → Int32
  | 0 => NEV
  | n + 1 => if 0 < V (20 + 4 * k + 1) n then (if pFin V n (bD V k) nc (V 0 0) 13 (bD V k) < eQ V nc k n then pFin V n (bD V k) nc (V 0 0) 13 (bD V k) else eQ V nc k n) else eQ V nc k n
def pQ (V : xV) (nc k : Nat) : Int32 := if eQ V nc k 8 < V (20 + 4 * k) 3 then (if eQ V nc k 8 = NEV then -1 else eQ V nc k 8) else -1
theorem cPr_e {V W : xV} {nc k : Nat} (h : TS V W) (hc : CT V nc) (hd : bD V k < 8) (n : Nat) : (cPr W (20 + 4 * k) (bD V k) nc n).1 = eQ V nc k n := by
  induction n with
  | zero => rfl
  | succ n ih =>
    have hs : TS V (cPr W (20 + 4 * k) (bD V k) nc n).2 := fun i a b c e => by rw [cPr_o _ _ _ _ _ a b]; exact h i a b c e
    have e1 : (cPr W (20 + 4 * k) (bD V k) nc n).2 (20 + 4 * k + 1) n = V (20 + 4 * k + 1) n := by rw [hs.big (by omega)]
    by_cases c : 0 < V (20 + 4 * k + 1) n
    · rw [cPr_t (by rw [e1]; exact c)]
      show (if _ < _ then _ else _) = (if 0 < V (20 + 4 * k + 1) n then _ else _)
      rw [if_pos c, ih, h.zero, fin_eq hs.pe hc hd]
    · rw [cPr_f (by rw [e1]; exact c), ih]
      show _ = (if 0 < V (20 + 4 * k + 1) n then _ else _)
      rw [if_neg c]
section QQ
variable {D : va_G} {sh : xS} {ad : Nat → Nat} {cI cZ cO : ClassId} {tys : List (ClassId × FieldType)} {t nb nc : Nat} {od S : Nat → Nat} {V W : xV}
theorem INV.dst (hI : INV t nb nc od S V) : ∀ k, k < nb → V (20 + 4 * k) 1 = nI (V (20 + 4 * k) 1).toNatClampNeg ∧ (V (20 + 4 * k) 1).toNatClampNeg < 8 := by
  intro k hk
  obtain ⟨h1, h2, h3, T, h4, h5, h6⟩ := hI
  obtain ⟨g, e, c, h, w, ⟨a1, -⟩, ⟨-, v1, -⟩, -⟩ := h6.1 k hk
  rw [v1, nI_clamp (by omega)]
  exact ⟨rfl, a1⟩
theorem INV.kz (hI : INV t nb nc od S V) {n k : Nat} (hn : n < 8) (hk : k < nb) : V (20 + 4 * k + 3) n = 0 ∨ V (20 + 4 * k + 3) n = 1 := by
  obtain ⟨h1, h2, h3, T, h4, h5, h6⟩ := hI
  obtain ⟨g, e, c, h, w, -, -, -, -, hw, -⟩ := h6.1 k hk
  rw [(hw n hn).1]
  exact b2i_01 _
theorem t_clock (l : Launch) (DL : xDl sh ad cI cZ cO tys nb od) (hI : INV t nb nc od S V) (h : TS V W) : xMi l yX2_clock wsX2_clock (rmK 4) D sh ad tys W [.ref (ad 0)] (V 0 0) W := by
  have z := c_X2_clock (D := D) l DL W (h.inv hI).1.1 (h.inv hI).1.2.1
  rw [h.zero] at z
  exact z
theorem t_bundles (l : Launch) (DL : xDl sh ad cI cZ cO tys nb od) (hI : INV t nb nc od S V) (h : TS V W) : xMi l yX2_bundles wsX2_bundles (rmK 4) D sh ad tys W [.ref (ad 0)] (nI nb) W := by
  have z := c_X2_bundles (D := D) l DL W (h.inv hI).1.1 (h.inv hI).1.2.1
  rw [(h.inv hI).1.1] at z
  exact z
theorem t_fld (l : Launch) (DL : xDl sh ad cI cZ cO tys nb od) (hI : INV t nb nc od S V) (h : TS V W) {k : Nat} (hk : k < nb) :
    xMi l yX2_endOf wsX2_endOf (rmK 4) D sh ad tys W [.ref (ad 0), .int (nI k)] (V (20 + 4 * k) 3) W ∧ xMi l yX2_deliveredAt wsX2_deliveredAt (rmK 4) D sh ad tys W [.ref (ad 0), .int (nI k)] (V (20 + 4 * k) 8) W ∧ xMi l yX2_hops wsX2_hops (rmK 4) D sh ad tys W [.ref (ad 0), .int (nI k)] (V (20 + 4 * k) 9) W ∧ xMi l yX2_custodian wsX2_custodian (rmK 4) D sh ad tys W [.ref (ad 0), .int (nI k)] (V (20 + 4 * k) 7) W ∧ xMi l yX2_holders wsX2_holders (rmK 4) D sh ad tys W [.ref (ad 0), .int (nI k)] (cBits V (20 + 4 * k) 8) W := by
  have i4 := (h.inv hI).1.1
  have i5 := (h.inv hI).1.2.1
  have eb : W (20 + 4 * k) = V (20 + 4 * k) := h.big (by omega)
  have z1 := c_X2_endOf_ok (D := D) l DL W i4 i5 k hk
  have z2 := c_X2_deliveredAt_ok (D := D) l DL W i4 i5 k hk
  have z3 := c_X2_hops_ok (D := D) l DL W i4 i5 k hk
  have z4 := c_X2_custodian_ok (D := D) l DL W i4 i5 k hk
  have z5 := c_X2_holders_ok (D := D) l DL W i4 i5 k hk
  rw [eb] at z1 z2 z3 z4
  have ec : cBits W (20 + 4 * k) 8 = cBits V (20 + 4 * k) 8 := by
    rw [bOr_c, bOr_c, h.big (by omega)]
  rw [ec] at z5
  exact ⟨z1, z2, z3, z4, z5⟩
theorem t_copies (l : Launch) (DL : xDl sh ad cI cZ cO tys nb od) (hI : INV t nb nc od S V) (h : TS V W) {n k : Nat} (hn : n < 8) (hk : k < nb) : xMi l yX2_copies wsX2_copies (rmK 4) D sh ad tys W [.ref (ad 0), .int (nI n), .int (nI k)] (V (20 + 4 * k + 1) n) W := by
  have z := c_X2_copies_ok (D := D) l DL W (h.inv hI).1.1 (h.inv hI).1.2.1 n k hn hk
  rw [h.big (by omega)] at z
  exact z
theorem t_knows (l : Launch) (DL : xDl sh ad cI cZ cO tys nb od) (hI : INV t nb nc od S V) (h : TS V W) {n k : Nat} (hn : n < 8) (hk : k < nb) : xMi l yX2_knows wsX2_knows (rmK 4) D sh ad tys W [.ref (ad 0), .int (nI n), .int (nI k)] (V (20 + 4 * k + 3) n) W := by
  have z := c_X2_knows_ok (D := D) l DL W (h.inv hI).1.1 (h.inv hI).1.2.1 n k hn hk ((h.inv hI).kz hn hk)
  rw [h.big (by omega)] at z
  exact z
theorem t_node (l : Launch) (DL : xDl sh ad cI cZ cO tys nb od) (hI : INV t nb nc od S V) (h : TS V W) {n : Nat} (hn : n < 8) :
    xMi l yX2_held wsX2_held (rmK 4) D sh ad tys W [.ref (ad 0), .int (nI n)] (nI (cntP (cHas V n) nb)) W ∧ xMi l yX2_dropped wsX2_dropped (rmK 4) D sh ad tys W [.ref (ad 0), .int (nI n)] (V 2 n) W ∧ xMi l yX2_refused wsX2_refused (rmK 4) D sh ad tys W [.ref (ad 0), .int (nI n)] (V 3 n) W := by
  have i4 := (h.inv hI).1.1
  have i5 := (h.inv hI).1.2.1
  have z1 := c_X2_held_ok (D := D) l DL W i4 i5 n hn
  have z2 := c_X2_dropped_ok (D := D) l DL W i4 i5 n hn
  have z3 := c_X2_refused_ok (D := D) l DL W i4 i5 n hn
  have eh : cHas W n = cHas V n := by
    funext k
    unfold cHas
    rw [h.big (by omega)]
  rw [eh] at z1
  rw [h 2 (by decide) (by decide) (by decide) (by decide)] at z2
  rw [h 3 (by decide) (by decide) (by decide) (by decide)] at z3
  exact ⟨z1, z2, z3⟩
theorem t_arrival (l : Launch) (DL : xDl sh ad cI cZ cO tys nb od) (hI : INV t nb nc od S V) (h : TS V W) {n d : Nat} (hn : n < 8) (hd : d < 8) : xMi l yX2_arrival wsX2_arrival (rmK 4) D sh ad tys W [.ref (ad 0), .int (nI n), .int (nI d)] (aQ V nc n d) (pFin W n d nc (V 0 0)) := by
  have z := c_X2_arrival_ok (D := D) l DL W (h.inv hI).1.1 (h.inv hI).1.2.1 n d nc hn hd (h.inv hI).2.1.1 hI.2.1.2.1 (h.inv hI).cp
  rw [h.zero, fin_eq h.pe hI.2.1.2.2 hd] at z
  exact z
theorem t_rounds (l : Launch) (DL : xDl sh ad cI cZ cO tys nb od) (hI : INV t nb nc od S V) (h : TS V W) {n d : Nat} (hn : n < 8) (hd : d < 8) : xMi l yX2_arrivalByRounds wsX2_arrivalByRounds (rmK 4) D sh ad tys W [.ref (ad 0), .int (nI n), .int (nI d)] (aQ V nc n d) (pAll W n nc (V 0 0)) := by
  have z := c_X2_arrivalByRounds_ok (D := D) l DL W (h.inv hI).1.1 (h.inv hI).1.2.1 n d nc hn hd (h.inv hI).2.1.1 hI.2.1.2.1 (h.inv hI).cp
  rw [h.zero, two_ways h.pe hI.2.1.2.2 hd] at z
  exact z
theorem t_promised (l : Launch) (DL : xDl sh ad cI cZ cO tys nb od) (hI : INV t nb nc od S V) (h : TS V W) {k : Nat} (hk : k < nb) : xMi l yX2_promised wsX2_promised (rmK 4) D sh ad tys W [.ref (ad 0), .int (nI k)] (pQ V nc k) (cPr W (20 + 4 * k) (bD V k) nc 8).2 := by
  have eb : W (20 + 4 * k) = V (20 + 4 * k) := h.big (by omega)
  obtain ⟨d1, d2⟩ := (h.inv hI).dst k hk
  have z := c_X2_promised_ok (D := D) l DL W (h.inv hI).1.1 (h.inv hI).1.2.1 k hk nc d1 d2 (h.inv hI).2.1.1 hI.2.1.2.1 (h.inv hI).cp
  rw [eb] at z d2
  rw [show (V (20 + 4 * k) 1).toNatClampNeg = bD V k from rfl] at z d2
  rw [cPr_e h hI.2.1.2.2 d2] at z
  exact z
theorem TS.prm (h : TS V W) (b d n : Nat) : TS V (cPr W b d nc n).2 := fun i x y c e => by rw [cPr_o _ _ _ _ _ x y]; exact h i x y c e
end QQ
