/-! ARRIVALS IN TWO WAYS: node by node and by rounds reach the same seconds -/
theorem i_rf (x : Int32) : x ≤ x := (i_le _ _).mpr (Int.le_refl _)
theorem i_tr {x y z : Int32} (h1 : x ≤ y) (h2 : y ≤ z) : x ≤ z := by rw [i_le] at *; omega
theorem i_an {x y : Int32} (h1 : x ≤ y) (h2 : y ≤ x) : x = y := by rw [i_le] at *; rw [i_eq]; omega
/-- the plan's rows -/
def CT (V : xV) (nc : Nat) : Prop := ∀ k, k < nc → (∃ x, x < 8 ∧ V 9 k = nI x) ∧ (∃ y, y < 8 ∧ V 10 k = nI y) ∧ V 12 k ≤ 100000
theorem CT.eq {V W : xV} {nc : Nat} (h : CT V nc) (e9 : W 9 = V 9) (e10 : W 10 = V 10) (e12 : W 12 = V 12) : CT W nc := by
  intro k hk
  have z := h k hk
  rw [e9, e10, e12]
  exact z
theorem CT.cp {V : xV} {nc : Nat} (h : CT V nc) : cPl V nc := by
  intro k hk
  obtain ⟨⟨x, x1, x2⟩, ⟨y, y1, y2⟩, -⟩ := h k hk
  unfold pOne pTwo
  rw [x2, y2, nI_clamp (by omega), nI_clamp (by omega)]
  exact ⟨rfl, x1, rfl, y1⟩
/-- the same plan -/
def PE (V W : xV) : Prop := W 9 = V 9 ∧ W 10 = V 10 ∧ W 11 = V 11 ∧ W 12 = V 12
theorem PE.one {V W : xV} (h : PE V W) (k : Nat) : pOne W k = pOne V k := by unfold pOne; rw [h.1]
theorem PE.two {V W : xV} (h : PE V W) (k : Nat) : pTwo W k = pTwo V k := by unfold pTwo; rw [h.2.1]
theorem pSec_le {V W : xV} (h : PE V W) {k u v : Nat} (hr : W 13 u ≤ V 13 v) : pSec W k u ≤ pSec V k v := by
  unfold pSec
  rw [h.2.2.1]
  rw [i_le] at hr
  split <;> split <;> (rename_i a b; rw [i_lt] at a b; rw [i_le]; omega)
theorem PE.refl (V : xV) : PE V V := ⟨rfl, rfl, rfl, rfl⟩
theorem PE.car {V W : xV} (h : PE V W) (k u v : Nat) : PE V (pCarV W k u v) := by
  unfold PE
  rw [pCarV_o _ _ _ _ (by decide), pCarV_o _ _ _ _ (by decide), pCarV_o _ _ _ _ (by decide), pCarV_o _ _ _ _ (by decide)]
  exact h
theorem PE.row {V W : xV} (h : PE V W) (k : Nat) : PE V (pRow W k).1 := by
  unfold PE
  rw [pRow_o _ _ (by decide), pRow_o _ _ (by decide), pRow_o _ _ (by decide), pRow_o _ _ (by decide)]
  exact h
theorem PE.sp {V W : xV} (h : PE V W) (a k : Nat) : PE V (pSp W a k) := by
  unfold PE
  rw [pSp_o _ _ _ (by decide), pSp_o _ _ _ (by decide), pSp_o _ _ _ (by decide), pSp_o _ _ _ (by decide)]
  exact h
theorem PE.symm {V W : xV} (h : PE V W) : PE W V := ⟨h.1.symm, h.2.1.symm, h.2.2.1.symm, h.2.2.2.symm⟩
theorem PE.trans {V W U : xV} (h : PE V W) (g : PE W U) : PE V U := ⟨g.1.trans h.1, g.2.1.trans h.2.1, g.2.2.1.trans h.2.2.1, g.2.2.2.trans h.2.2.2⟩
/-- what a carry leaves at the other side -/
theorem pCar_at {V : xV} {k u v : Nat} (h : V 13 u ≤ V 12 k) : pCarV V k u v 13 v ≤ pSec V k u := by
  unfold pCarV
  by_cases c : pCarB V k u v = true
  · rw [if_pos c, xu_row, if_pos rfl]; exact i_rf _
  · rw [if_neg c]
    exact i_nlt.mp (fun z => c (pCar_t h z))
/-- values only fall in a round -/
theorem pRow_le (W : xV) (k y : Nat) : (pRow W k).1 13 y ≤ W 13 y := by
  induction k with
  | zero => exact i_rf _
  | succ k ih =>
    rw [pRow_both]
    exact i_tr (pCar_le _ _ _ _ _) (i_tr (pCar_le _ _ _ _ _) ih)
theorem pCar_t2 {V : xV} {k u v : Nat} (h : pCarB V k u v = true) : V 13 u ≤ V 12 k ∧ pSec V k u < V 13 v := by
  unfold pCarB at h
  rw [Bool.and_eq_true] at h
  exact ⟨of_decide_eq_true h.1, of_decide_eq_true h.2⟩
/-- no later at the eight nodes -/
def LE8 (W V : xV) : Prop := ∀ y, y < 8 → W 13 y ≤ V 13 y
theorem car_mono {V W : xV} (hE : PE V W) (hle : LE8 W V) {k u v : Nat} (hu : u < 8) : LE8 (pCarV W k u v) (pCarV V k u v) := by
  intro y hy
  by_cases c : pCarB V k u v = true
  · rw [show pCarV V k u v = xu V 13 v (pSec V k u) from if_pos c, xu_row]
    by_cases e : y = v
    · rw [if_pos e, e]
      have q := (pCar_t2 c).1
      exact i_tr (pCar_at (i_tr (hle u hu) (by rw [hE.2.2.2]; exact q))) (pSec_le hE (hle u hu))
    · rw [if_neg e]
      exact i_tr (pCar_le _ _ _ _ _) (hle y hy)
  · rw [show pCarV V k u v = V from if_neg c]
    exact i_tr (pCar_le _ _ _ _ _) (hle y hy)
/-- a round reaches no later than one node's spreading -/
theorem row_sp {V W : xV} {a : Nat} (hE : PE V W) (hle : LE8 W V) (ha : a < 8) (k : Nat) : LE8 (pRow W k).1 (pSp V a k) := by
  induction k with
  | zero => exact hle
  | succ k ih =>
    have hE2 : PE (pSp V a k) (pRow W k).1 := (PE.trans (PE.sp (PE.refl V) a k).symm (PE.row hE k))
    intro y hy
    rw [pRow_both, hE.one, hE.two]
    unfold pSp
    by_cases c : pOne V k = a
    · rw [if_pos c, c]
      exact i_tr (pCar_le _ _ _ _ _) (car_mono hE2 ih ha y hy)
    · rw [if_neg c]
      by_cases d : pTwo V k = a
      · rw [if_pos d, d]
        exact car_mono (hE2.car _ _ _) (fun y hy => i_tr (pCar_le _ _ _ _ _) (ih y hy)) ha y hy
      · rw [if_neg d]
        exact i_tr (pCar_le _ _ _ _ _) (i_tr (pCar_le _ _ _ _ _) (ih y hy))
theorem rnd_un {W : xV} {nc : Nat} (h : ¬ (pRow W nc).2 = true) (f : Nat) : pRnd nc f W = W := by
  cases f with
  | zero => rfl
  | succ f =>
    show (if (pRow W nc).2 = true then pRnd nc f (pRow W nc).1 else (pRow W nc).1) = W
    rw [if_neg h, pRow_un W nc h]
theorem rnd_le {nc : Nat} (f : Nat) (W : xV) (y : Nat) : pRnd nc f W 13 y ≤ W 13 y := by
  induction f generalizing W with
  | zero => exact i_rf _
  | succ f ih =>
    unfold pRnd
    split
    · exact i_tr (ih _) (pRow_le _ _ _)
    · exact pRow_le _ _ _
theorem PE.set {V W : xV} (h : PE V W) (a : Nat) (x : Int32) : PE (xu V 14 a x) W :=
  ⟨by rw [xu_ne _ _ _ (by decide)]; exact h.1, by rw [xu_ne _ _ _ (by decide)]; exact h.2.1, by rw [xu_ne _ _ _ (by decide)]; exact h.2.2.1, by rw [xu_ne _ _ _ (by decide)]; exact h.2.2.2⟩
/-- rounds reach no later -/
theorem rnd_run {nc : Nat} (f : Nat) {V W : xV} (hE : PE V W) (hle : LE8 W V) : LE8 (pRnd nc f W) (pRun nc 8 f V) := by
  induction f generalizing V W with
  | zero => exact hle
  | succ f ih =>
    unfold pRun
    by_cases c : pNr V 8 = 0
    · rw [if_pos c]
      exact fun y hy => i_tr (rnd_le _ _ _) (hle y hy)
    · obtain ⟨s1, -⟩ := pNr_spec c
      rw [if_neg c, if_neg (by omega)]
      generalize pNr V 8 - 1 = a at *
      have hE1 : PE (xu V 14 a 1) W := hE.set a 1
      have hle1 : LE8 W (xu V 14 a 1) := fun y hy => by rw [xu_ne _ _ _ (by decide)]; exact hle y hy
      have hE2 : PE (pSp (xu V 14 a 1) a nc) W := (PE.trans (PE.sp (PE.refl _) a nc).symm hE1)
      have r := row_sp hE1 hle1 s1 nc
      by_cases d : (pRow W nc).2 = true
      · rw [show pRnd nc (f + 1) W = pRnd nc f (pRow W nc).1 from if_pos d]
        exact ih (hE2.row nc) r
      · rw [pRow_un W nc d] at r
        rw [rnd_un d (f + 1), ← rnd_un d f]
        exact ih hE2 r
theorem run_le {nc d : Nat} (f : Nat) (V : xV) (y : Nat) : pRun nc d f V 13 y ≤ V 13 y := by
  induction f generalizing V with
  | zero => exact i_rf _
  | succ f ih =>
    unfold pRun
    split
    · exact i_rf _
    · split
      · exact i_rf _
      · refine i_tr (ih _) ?_
        have z := (pSp_keep (V := xu V 14 (pNr V 8 - 1) 1) (pNr V 8 - 1) nc y).2
        rw [xu_ne V (i := 14) (j := 13) _ _ (by decide)] at z
        exact z
/-- the sides of a contact -/
def ED (V : xV) (k u v : Nat) : Prop := (u = pOne V k ∧ v = pTwo V k) ∨ (u = pTwo V k ∧ v = pOne V k)
theorem PE.ed {V W : xV} (h : PE V W) {k u v : Nat} (g : ED W k u v) : ED V k u v := by
  unfold ED at *
  rw [h.one, h.two] at g
  exact g
theorem CT.ed {V : xV} {nc k u v : Nat} (h : CT V nc) (hk : k < nc) (g : ED V k u v) : u < 8 ∧ v < 8 := by
  obtain ⟨h1, h2, h3, h4⟩ := h.cp k hk
  rcases g with ⟨rfl, rfl⟩ | ⟨rfl, rfl⟩
  · exact ⟨h2, h4⟩
  · exact ⟨h4, h2⟩
def CL (V : xV) (nc : Nat) : Prop := ∀ k, k < nc → ∀ u v, ED V k u v → V 13 u ≤ V 12 k → V 13 v ≤ pSec V k u
/-- what node by node keeps: the settled ones have told all, and are no later than others -/
def DI (V : xV) (nc : Nat) : Prop := (∀ k, k < nc → ∀ u v, ED V k u v → V 14 u ≠ 0 → V 13 u ≤ V 12 k → V 13 v ≤ pSec V k u) ∧ (∀ u v, u < 8 → v < 8 → V 14 u ≠ 0 → V 14 v = 0 → V 13 u ≤ V 13 v)
theorem sp_self (V : xV) (a k : Nat) : pSp V a k 13 a = V 13 a := by
  obtain ⟨q1 | q1, q2⟩ := pSp_keep (V := V) a k a
  · exact q1
  · exact i_an q2 q1
theorem pSec_self {V W : xV} (h : PE V W) {k u : Nat} (e : W 13 u = V 13 u) : pSec W k u = pSec V k u := by
  unfold pSec
  rw [h.2.2.1, e]
theorem sp_relax {V : xV} {a : Nat} (m : Nat) : ∀ k, k < m → ∀ v, ED V k a v → V 13 a ≤ V 12 k → pSp V a m 13 v ≤ pSec V k a := by
  induction m with
  | zero => exact fun k hk => absurd hk (Nat.not_lt_zero k)
  | succ m ih =>
    intro k hk v he hl
    have le1 : ∀ y, pSp V a (m + 1) 13 y ≤ pSp V a m 13 y := by
      intro y
      show (if pOne V m = a then pCarV (pSp V a m) m a (pTwo V m) else if pTwo V m = a then pCarV (pSp V a m) m a (pOne V m) else pSp V a m) 13 y ≤ _
      split
      · exact pCar_le _ _ _ _ _
      · split
        · exact pCar_le _ _ _ _ _
        · exact i_rf _
    by_cases e : k < m
    · exact i_tr (le1 v) (ih k e v he hl)
    · have e : k = m := by omega
      subst e
      have hP := PE.sp (PE.refl V) a k
      have hs : pSec (pSp V a k) k a = pSec V k a := pSec_self hP (sp_self V a k)
      have hl2 : pSp V a k 13 a ≤ pSp V a k 12 k := by rw [sp_self, hP.2.2.2]; exact hl
      have hself : pSp V a (k + 1) 13 a ≤ pSec V k a := by rw [sp_self]; exact pSec_ge _ _ _
      by_cases ev : v = a
      · rw [ev]; exact hself
      · rw [← hs]
        show (if pOne V k = a then pCarV (pSp V a k) k a (pTwo V k) else if pTwo V k = a then pCarV (pSp V a k) k a (pOne V k) else pSp V a k) 13 v ≤ _
        rcases he with ⟨h1, h2⟩ | ⟨h1, h2⟩
        · rw [if_pos h1.symm, h2]
          exact pCar_at hl2
        · rw [if_neg (fun z => ev (h2.trans z)), if_pos h1.symm, h2]
          exact pCar_at hl2
theorem DI.step {V : xV} {nc a : Nat} (h : DI V nc) (hc : CT V nc) (ha : a < 8) (h0 : V 14 a = 0) (hn : ∀ y, y < 8 → V 14 y = 0 → V 13 a ≤ V 13 y) : DI (pSp (xu V 14 a 1) a nc) nc := by
  have e13 : ∀ y, xu V 14 a 1 13 y = V 13 y := fun y => by rw [xu_ne _ _ _ (by decide)]
  have hE : PE V (pSp (xu V 14 a 1) a nc) := PE.trans ((PE.refl V).set a 1).symm (PE.sp (PE.refl _) a nc)
  have hE0 : PE V (xu V 14 a 1) := ((PE.refl V).set a 1).symm
  have k1 : ∀ y, (pSp (xu V 14 a 1) a nc 13 y = V 13 y ∨ V 13 a ≤ pSp (xu V 14 a 1) a nc 13 y) ∧ pSp (xu V 14 a 1) a nc 13 y ≤ V 13 y := by
    intro y
    have z := pSp_keep (V := xu V 14 a 1) a nc y
    rw [e13, e13] at z
    exact z
  have e14 : ∀ y, pSp (xu V 14 a 1) a nc 14 y = if y = a then 1 else V 14 y := fun y => by rw [pSp_o _ _ _ (by decide), xu_row]
  have hself : pSp (xu V 14 a 1) a nc 13 a = V 13 a := by rw [sp_self, e13]
  refine ⟨fun k hk u v he h1 h2 => ?_, fun u v hu hv h1 h2 => ?_⟩
  · have he' : ED V k u v := hE.ed he
    obtain ⟨hu, hv⟩ := hc.ed hk he'
    rw [hE.2.2.2] at h2
    by_cases e : u = a
    · subst e
      have z := sp_relax (V := xu V 14 u 1) (a := u) nc k hk v (hE0.symm.ed he') (by rw [e13, hE0.2.2.2, ← hself]; exact h2)
      rw [pSec_self hE hself, ← pSec_self hE0 (e13 u)]
      exact z
    · rw [e14, if_neg e] at h1
      have hua := h.2 u a hu ha h1 h0
      have eu : pSp (xu V 14 a 1) a nc 13 u = V 13 u := by
        obtain ⟨q1 | q1, q2⟩ := k1 u
        · exact q1
        · exact i_an q2 (i_tr hua q1)
      rw [pSec_self hE eu]
      exact i_tr (k1 v).2 (h.1 k hk u v he' h1 (by rw [← eu]; exact h2))
  · rw [e14] at h1 h2
    have ev : v ≠ a := fun z => by rw [if_pos z] at h2; exact absurd h2 (by decide)
    rw [if_neg ev] at h2
    by_cases e : u = a
    · rw [e, hself]
      rcases (k1 v).1 with q | q
      · rw [q]; exact hn v hv h2
      · exact q
    · rw [if_neg e] at h1
      rcases (k1 v).1 with q | q
      · rw [q]; exact i_tr (k1 u).2 (h.2 u v hu hv h1 h2)
      · exact i_tr (k1 u).2 (i_tr (h.2 u a hu ha h1 h0) q)
theorem pNr_un {V : xV} (k : Nat) : pNr V k ≠ 0 → V 14 (pNr V k - 1) = 0 := by
  induction k with
  | zero => exact fun q => absurd rfl q
  | succ k ih2 =>
    intro q
    by_cases w : V 14 k = 0 ∧ ¬ pEa V k ≤ V 13 k
    · rw [pNr_t w.1 w.2]; exact w.1
    · rw [pNr_f w] at q ⊢; exact ih2 q
theorem cnt_drop {P Q : Nat → Bool} {a : Nat} (n : Nat) (h : ∀ y, y < n → Q y = true → P y = true) (ha : a < n) (hP : P a = true) (hQ : ¬ Q a = true) : cntP Q n < cntP P n := by
  have le : ∀ m, m ≤ n → cntP Q m ≤ cntP P m := by
    intro m
    induction m with
    | zero => exact fun _ => Nat.le_refl _
    | succ m ih =>
      intro hm
      have z := ih (by omega)
      by_cases q : Q m = true
      · rw [cntP_t q, cntP_t (h m (by omega) q)]; omega
      · rw [cntP_f q]
        exact Nat.le_trans z (cntP_mono P (Nat.le_succ m))
  have go : ∀ m, a < m → m ≤ n → cntP Q m < cntP P m := by
    intro m
    induction m with
    | zero => exact fun z => absurd z (Nat.not_lt_zero a)
    | succ m ih =>
      intro h1 hm
      by_cases e : a = m
      · subst e
        rw [cntP_f hQ, cntP_t hP]
        have := le a (by omega)
        omega
      · have z := ih (by omega) (by omega)
        by_cases q : Q m = true
        · rw [cntP_t q, cntP_t (h m (by omega) q)]; omega
        · rw [cntP_f q]
          exact Nat.lt_of_lt_of_le z (cntP_mono P (Nat.le_succ m))
  exact go n ha (Nat.le_refl n)
/-- at the end all contacts have been used -/
theorem run_cl {nc : Nat} (f : Nat) {V : xV} (hc : CT V nc) (h : DI V nc) (hf : cntP (fun y => decide (V 14 y = 0)) 8 ≤ f) : CL (pRun nc 8 f V) nc := by
  induction f generalizing V with
  | zero =>
    intro k hk u v he hl
    refine h.1 k hk u v he ?_ hl
    intro z
    have q := cntP_lt (P := fun y => decide (V 14 y = 0)) (hc.ed hk he).1 (decide_eq_true z)
    omega
  | succ f ih =>
    unfold pRun
    by_cases c : pNr V 8 = 0
    · rw [if_pos c]
      intro k hk u v he hl
      refine h.1 k hk u v he ?_ hl
      intro z
      have q := pEa_le 8 u (hc.ed hk he).1 z
      unfold pEa at q
      rw [if_pos c] at q
      have l := (hc k hk).2.2
      rw [i_le] at q l hl
      rw [NEV_int] at q
      have t5 : (100000 : Int32).toInt = 100000 := by decide
      omega
    · obtain ⟨s1, s2⟩ := pNr_spec c
      have s3 := pNr_un 8 c
      rw [if_neg c, if_neg (by omega)]
      generalize pNr V 8 - 1 = a at *
      have hE : PE V (pSp (xu V 14 a 1) a nc) := PE.trans ((PE.refl V).set a 1).symm (PE.sp (PE.refl _) a nc)
      refine ih (hc.eq hE.1 hE.2.1 hE.2.2.2) (h.step hc s1 s3 s2) ?_
      have z := cnt_drop (P := fun y => decide (V 14 y = 0)) (Q := fun y => decide (pSp (xu V 14 a 1) a nc 14 y = 0)) (a := a) 8 (fun y hy q => by
        rw [decide_eq_true_eq] at *
        rw [pSp_o _ _ _ (by decide), xu_row] at q
        by_cases e : y = a
        · rw [e]; exact s3
        · rw [if_neg e] at q; exact q) s1 (decide_eq_true s3) (by
        rw [decide_eq_true_eq, pSp_o _ _ _ (by decide), xu_row, if_pos rfl]
        decide)
      omega
/-- rounds reach no earlier than what all contacts have been used on -/
theorem car_ge {C W : xV} {nc k u v : Nat} (hE : PE C W) (hcl : CL C nc) (hk : k < nc) (he : ED C k u v) (hu : u < 8) (h : LE8 C W) : LE8 C (pCarV W k u v) := by
  intro y hy
  rcases pCar_cases W k u v with e | ⟨e, -⟩
  · rw [e]; exact h y hy
  · by_cases c : pCarB W k u v = true
    · rw [e, xu_row]
      by_cases q : y = v
      · rw [if_pos q, q]
        have l := (pCar_t2 c).1
        rw [hE.2.2.2] at l
        exact i_tr (hcl k hk u v he (i_tr (h u hu) l)) (pSec_le hE.symm (h u hu))
      · rw [if_neg q]; exact h y hy
    · rw [show pCarV W k u v = W from if_neg c]; exact h y hy
theorem row_ge {C W : xV} {nc : Nat} (hE : PE C W) (hc : CT C nc) (hcl : CL C nc) (h : LE8 C W) (k : Nat) (hk : k ≤ nc) : LE8 C (pRow W k).1 := by
  induction k with
  | zero => exact h
  | succ k ih =>
    have ih := ih (by omega)
    have hE1 := hE.row k
    obtain ⟨c1, c2⟩ := hc.ed (show k < nc by omega) (Or.inl ⟨rfl, rfl⟩)
    rw [pRow_both, hE.one, hE.two]
    exact car_ge (hE1.car _ _ _) hcl (show k < nc by omega) (Or.inr ⟨rfl, rfl⟩) c2 (car_ge hE1 hcl (show k < nc by omega) (Or.inl ⟨rfl, rfl⟩) c1 ih)
theorem rnd_ge {C : xV} {nc : Nat} (hc : CT C nc) (hcl : CL C nc) (f : Nat) {W : xV} (hE : PE C W) (h : LE8 C W) : LE8 C (pRnd nc f W) := by
  induction f generalizing W with
  | zero => exact h
  | succ f ih =>
    unfold pRnd
    split
    · exact ih (hE.row nc) (row_ge hE hc hcl h nc (Nat.le_refl nc))
    · exact row_ge hE hc hcl h nc (Nat.le_refl nc)
theorem pBeg_13 (V : xV) (n : Nat) (t : Int32) (y : Nat) (hy : y < 8) : pBeg V n t 13 y = if y = n then t else NEV := by
  unfold pBeg pSt
  rw [xu_row]
  simp [hy]
theorem pBeg_14 (V : xV) (n : Nat) (t : Int32) (y : Nat) (hy : y < 8) : pBeg V n t 14 y = 0 := by
  unfold pBeg pSt
  rw [xu_ne _ _ _ (by decide)]
  simp [hy]
theorem PE.beg {V W : xV} (h : PE V W) (n : Nat) (t : Int32) : PE V (pBeg W n t) :=
  ⟨by rw [pBeg_o _ _ _ (by decide) (by decide)]; exact h.1, by rw [pBeg_o _ _ _ (by decide) (by decide)]; exact h.2.1, by rw [pBeg_o _ _ _ (by decide) (by decide)]; exact h.2.2.1, by rw [pBeg_o _ _ _ (by decide) (by decide)]; exact h.2.2.2⟩
theorem PE.run {V W : xV} (h : PE V W) (nc d f : Nat) : PE V (pRun nc d f W) :=
  ⟨by rw [pRun_o _ _ _ _ (by decide) (by decide)]; exact h.1, by rw [pRun_o _ _ _ _ (by decide) (by decide)]; exact h.2.1, by rw [pRun_o _ _ _ _ (by decide) (by decide)]; exact h.2.2.1, by rw [pRun_o _ _ _ _ (by decide) (by decide)]; exact h.2.2.2⟩
/-- ARRIVALS IN TWO WAYS -/
theorem two_ways {V W : xV} {nc n d : Nat} {t : Int32} (hE : PE V W) (hc : CT V nc) (hd : d < 8) : pAll W n nc t 13 d = pFin V n d nc t 13 d := by
  unfold pAll pFin
  rw [run_stop hd]
  have h0 : LE8 (pBeg W n t) (pBeg V n t) := fun y hy => by rw [pBeg_13 _ _ _ _ hy, pBeg_13 _ _ _ _ hy]; exact i_rf _
  have hb : PE V (pBeg V n t) := (PE.refl V).beg n t
  refine i_an (rnd_run 8 (PE.trans hb.symm (hE.beg n t)) h0 d hd) ?_
  have hr : PE V (pRun nc 8 8 (pBeg V n t)) := hb.run nc 8 8
  refine rnd_ge (hc.eq hr.1 hr.2.1 hr.2.2.2) (run_cl 8 (hc.eq hb.1 hb.2.1 hb.2.2.2) ⟨fun k hk u v he h1 _ => ?_, fun u v hu _ h1 _ => ?_⟩ (cntP_le _ _)) 8 (PE.trans hr.symm (hE.beg n t)) (fun y hy => ?_) d hd
  · exact absurd (pBeg_14 V n t u (hc.ed hk (hb.ed he)).1) h1
  · exact absurd (pBeg_14 V n t u hu) h1
  · refine i_tr (run_le _ _ _) ?_
    rw [pBeg_13 _ _ _ _ hy, pBeg_13 _ _ _ _ hy]
    exact i_rf _
/-- .. also from another world with the same plan -/
theorem fin_eq {V W : xV} {nc n d : Nat} {t : Int32} (hE : PE V W) (hc : CT V nc) (hd : d < 8) : pFin W n d nc t 13 d = pFin V n d nc t 13 d := by
  rw [← two_ways hE hc hd, two_ways (PE.refl W) (hc.eq hE.1 hE.2.1 hE.2.2.2) hd]
theorem rnd_low {nc : Nat} {t : Int32} (f : Nat) {V W : xV} (hE : PE V W) (hc : CT V nc) (h : ∀ y, y < 8 → t ≤ W 13 y) : ∀ y, y < 8 → t ≤ pRnd nc f W 13 y := by
  have car : ∀ (W : xV) (k u v : Nat), u < 8 → (∀ y, y < 8 → t ≤ W 13 y) → ∀ y, y < 8 → t ≤ pCarV W k u v 13 y := by
    intro W k u v hu h y hy
    rcases pCar_cases W k u v with e | ⟨e, -⟩
    · rw [e]; exact h y hy
    · rw [e, xu_row]
      split
      · exact i_tr (h u hu) (pSec_ge _ _ _)
      · exact h y hy
  have row : ∀ (W : xV), PE V W → (∀ y, y < 8 → t ≤ W 13 y) → ∀ k, k ≤ nc → ∀ y, y < 8 → t ≤ (pRow W k).1 13 y := by
    intro W hE h k
    induction k with
    | zero => exact fun _ => h
    | succ k ih =>
      intro hk
      obtain ⟨c1, c2⟩ := hc.ed (show k < nc by omega) (Or.inl ⟨rfl, rfl⟩)
      rw [pRow_both, hE.one, hE.two]
      exact car _ _ _ _ c2 (car _ _ _ _ c1 (ih (by omega)))
  induction f generalizing W with
  | zero => exact h
  | succ f ih =>
    unfold pRnd
    split
    · exact ih (hE.row nc) (row W hE h nc (Nat.le_refl _))
    · exact row W hE h nc (Nat.le_refl _)
theorem fin_low {V : xV} {nc n d : Nat} {t : Int32} (hc : CT V nc) (hd : d < 8) : t ≤ pFin V n d nc t 13 d := by
  rw [← two_ways (PE.refl V) hc hd]
  unfold pAll
  refine rnd_low 8 ((PE.refl V).beg n t) hc (fun y hy => ?_) d hd
  rw [pBeg_13 _ _ _ _ hy]
  split
  · exact i_rf _
  · exact le_NEV _
theorem fin_self {V : xV} {nc n : Nat} {t : Int32} (hc : CT V nc) (hn : n < 8) : pFin V n n nc t 13 n = t := by
  refine i_an ?_ (fin_low hc hn)
  unfold pFin
  refine i_tr (run_le _ _ _) ?_
  rw [pBeg_13 _ _ _ _ hn, if_pos rfl]
  exact i_rf _
