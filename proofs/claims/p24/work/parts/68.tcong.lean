/-! TELL tells the same of worlds that differ in free rows alone -/
section TC
variable {V Z : xV} {nb nc : Nat}
theorem aQ_ts (h : TS V Z) (hc : CT V nc) {n d : Nat} (hd : d < 8) : aQ Z nc n d = aQ V nc n d := by
  unfold aQ
  rw [h.zero, fin_eq h.pe hc hd]
theorem bD_ts (h : TS V Z) (k : Nat) : bD Z k = bD V k := by
  unfold bD
  rw [h.big (by omega)]
theorem eQ_ts (h : TS V Z) (hc : CT V nc) {k : Nat} (hd : bD V k < 8) (n : Nat) : eQ Z nc k n = eQ V nc k n := by
  induction n with
  | zero => rfl
  | succ n ih =>
    unfold eQ
    rw [ih, bD_ts h, h.big (by omega), h.zero, fin_eq h.pe hc hd]
theorem pQ_ts (h : TS V Z) (hc : CT V nc) {k : Nat} (hd : bD V k < 8) : pQ Z nc k = pQ V nc k := by
  unfold pQ
  rw [eQ_ts h hc hd, h.big (by omega)]
theorem tIn_ts (h : TS V Z) (n : Nat) (r : Nat → Int32) (k : Nat) : tIn Z n r k = tIn V n r k := by
  induction k with
  | zero => rfl
  | succ k ih =>
    unfold tIn
    rw [ih, h.big (show 20 ≤ 20 + 4 * k + 1 by omega), h.big (show 20 ≤ 20 + 4 * k + 3 by omega)]
theorem tHd_ts (h : TS V Z) (hc : CT V nc) (n : Nat) (r : Nat → Int32) : tHd Z nb nc n r = tHd V nb nc n r := by
  have eh : cHas Z n = cHas V n := by
    funext k
    unfold cHas
    rw [h.big (by omega)]
  unfold tHd
  rw [eh, h 2 (by decide) (by decide) (by decide) (by decide), h 3 (by decide) (by decide) (by decide) (by decide), aQ_ts h hc (by decide), aQ_ts h hc (by decide)]
theorem tOut_ts (h : TS V Z) (hc : CT V nc) (r : Nat → Int32) (n : Nat) : tOut Z nb nc r n = tOut V nb nc r n := by
  induction n with
  | zero => rfl
  | succ n ih =>
    unfold tOut
    rw [ih, tHd_ts h hc, tIn_ts h]
theorem tLst_ts (h : TS V Z) (hc : CT V nc) (hd : ∀ k, k < nb → bD V k < 8) (r : Nat → Int32) (k : Nat) (hk : k ≤ nb) : tLst Z nc r k = tLst V nc r k := by
  induction k with
  | zero => rfl
  | succ k ih =>
    unfold tLst
    rw [ih (by omega), pQ_ts h hc (hd k (by omega)), h.big (show 20 ≤ 20 + 4 * k by omega)]
theorem tellR_ts {t : Nat} {od S : Nat → Nat} (h : TS V Z) (hI : INV t nb nc od S V) : tellR Z nb nc = tellR V nb nc := by
  unfold tellR
  have e0 : tR0 Z nb = tR0 V nb := by
    unfold tR0
    rw [h.zero]
  rw [e0, tOut_ts h hI.2.1.2.2, tLst_ts h hI.2.1.2.2 (fun k hk => (hI.dst k hk).2) _ nb (Nat.le_refl nb)]
theorem tellR_0 (V : xV) (nb nc : Nat) : tellR V nb nc 0 = V 0 0 ∧ tellR V nb nc 1 = nI nb := by
  unfold tellR
  rw [tLst_1 _ _ _ _ (by decide), tLst_1 _ _ _ _ (by decide), tOut_1 _ _ _ _ _ (by decide), tOut_1 _ _ _ _ _ (by decide)]
  exact ⟨rfl, rfl⟩
theorem LwS.tell {cI cZ cO : ClassId} {tys : List (ClassId × FieldType)} {e0 t : Nat} {od S : Nat → Nat} {sh sh' : xS} {ad ad' : Nat → Nat} {i q : Nat} (h : LwS cI cZ cO tys e0 t nb nc od S sh ad V) (hi : i = 18 ∨ i = 19) (h1 : sh' = sU sh i (iA cI 64)) (h2 : ad' = aU ad i q) (hT : TI i V Z) (hI : xI sh' ad') : LwS cI cZ cO tys e0 t nb nc od S sh' ad' Z := by
  obtain ⟨g1, g2, g3, g4, g5, g6⟩ := h
  have ks : ∀ j, j ≠ i → sh' j = sh j := fun j hj => by rw [h1]; exact sU_n _ _ hj
  have ka : ∀ j, j ≠ i → ad' j = ad j := fun j hj => by rw [h2]; exact aU_n _ _ hj
  refine ⟨g1.law (fun j hj => ks j (by omega)) (fun j hj => ka j (by omega)) hI, (hT.ts (by omega)).inv g2, (ks 16 (by omega)).trans g3, (ks 17 (by omega)).trans g4, fun k hk => ?_, fun n hn => ?_⟩
  · rw [hT 16 (by decide) (by decide) (by omega)]; exact g5 k hk
  · rw [hT 17 (by decide) (by decide) (by omega), hT 1 (by decide) (by decide) (by omega)]; exact g6 n hn
end TC
