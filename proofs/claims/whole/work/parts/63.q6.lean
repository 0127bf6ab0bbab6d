/-! THE PURE PART: arrivals -/
def enc (x : Int32) : Int32 := if x = NEV then -1 else x
def AR (V Vm : xV) : Prop := ∀ n, n < 8 → Vm 15 n = enc (V 13 n) ∧ 0 ≤ V 13 n
def AS (V Vm : xV) : Prop := ∀ n, n < 8 → (V 14 n = 0 ↔ Vm 16 n = 0)
def HP (nc : Nat) (V Vm : xV) : Prop := ∀ k, k < nc → RelP V Vm k
theorem NEV_int : NEV.toInt = 2147483647 := by decide
theorem le_NEV (x : Int32) : x ≤ NEV := by
  rw [i_le, NEV_int]
  have := Int32.toInt_lt x
  omega
theorem enc_NEV : enc NEV = -1 := if_pos rfl
theorem enc_ne {x : Int32} (h : x ≠ NEV) : enc x = x := if_neg h
theorem enc_neg {x : Int32} (h : 0 ≤ x) : enc x < 0 ↔ x = NEV := by
  unfold enc
  split
  · rename_i e
    exact ⟨fun _ => e, fun _ => by decide⟩
  · rename_i e
    exact ⟨fun z => absurd h (i_nle.mpr z), fun z => absurd z e⟩
theorem HP.eq {nc : Nat} {V Vm W Wm : xV} (h : HP nc V Vm) (e9 : W 9 = V 9) (e10 : W 10 = V 10) (e11 : W 11 = V 11) (e12 : W 12 = V 12) (m12 : Wm 12 = Vm 12) : HP nc W Wm := by
  intro k hk
  have z := h k hk
  unfold RelP at z ⊢
  rw [e9, e10, e11, e12, m12]
  exact z
theorem HP.two {nc : Nat} {V Vm : xV} (h : HP nc V Vm) {k : Nat} (hk : k < nc) : mOne Vm k = pOne V k ∧ mTwo Vm k = pTwo V k ∧ pOne V k < 8 ∧ pTwo V k < 8 := by
  obtain ⟨⟨x, x1, x2, x3⟩, ⟨y, y1, y2, y3⟩, -⟩ := h k hk
  unfold mOne pOne mTwo pTwo
  rw [x2, x3, y2, y3, nI_clamp (by omega), nI_clamp (by omega)]
  exact ⟨rfl, rfl, x1, y1⟩
theorem HP.cp {nc : Nat} {V Vm : xV} (h : HP nc V Vm) : cPl V nc := by
  intro k hk
  obtain ⟨⟨x, x1, x2, x3⟩, ⟨y, y1, y2, y3⟩, -⟩ := h k hk
  unfold pOne pTwo
  rw [x2, y2, nI_clamp (by omega), nI_clamp (by omega)]
  exact ⟨rfl, x1, rfl, y1⟩
theorem HP.mp {nc : Nat} {V Vm : xV} (h : HP nc V Vm) : mPl Vm nc := by
  intro k hk
  obtain ⟨⟨x, x1, x2, x3⟩, ⟨y, y1, y2, y3⟩, -⟩ := h k hk
  unfold mOne mTwo
  rw [x3, y3, nI_clamp (by omega), nI_clamp (by omega)]
  exact ⟨rfl, x1, rfl, y1⟩
theorem pSec_ge (V : xV) (k u : Nat) : V 13 u ≤ pSec V k u := by
  unfold pSec
  split
  · rename_i h
    rw [i_lt] at h
    rw [i_le]; omega
  · exact (i_le _ _).mpr (Int.le_refl _)
theorem pCar_cases (V : xV) (k u v : Nat) : pCarV V k u v = V ∨ (pCarV V k u v = xu V 13 v (pSec V k u) ∧ pSec V k u < V 13 v) := by
  unfold pCarV
  split
  · rename_i h
    unfold pCarB at h
    rw [Bool.and_eq_true] at h
    exact Or.inr ⟨rfl, of_decide_eq_true h.2⟩
  · exact Or.inl rfl
theorem pCar_le (V : xV) (k u v y : Nat) : pCarV V k u v 13 y ≤ V 13 y := by
  rcases pCar_cases V k u v with e | ⟨e, h⟩
  · rw [e]; exact (i_le _ _).mpr (Int.le_refl _)
  · rw [e, xu_row]
    split
    · rename_i c
      rw [c]
      rw [i_lt] at h
      rw [i_le]; omega
    · exact (i_le _ _).mpr (Int.le_refl _)
theorem ne_NEV {x y : Int32} (h : x ≤ y) (hy : y ≠ NEV) : x ≠ NEV := by
  intro z
  apply hy
  have q := le_NEV y
  rw [z] at h
  rw [i_le] at h q
  rw [i_eq]; omega
theorem AR.carry {V Vm : xV} {k u v : Nat} (h : AR V Vm) (hp : RelP V Vm k) (hu : u < 8) (hv : v < 8) (hne : V 13 u ≠ NEV) : AR (pCarV V k u v) (mImp Vm v (mUse Vm k (Vm 15 u))) := by
  obtain ⟨-, -, p1, p2, p3, p4, p5⟩ := hp
  obtain ⟨u1, u2⟩ := h u hu
  obtain ⟨v1, v2⟩ := h v hv
  rw [enc_ne hne] at u1
  have t5 : (100000 : Int32).toInt = 100000 := by decide
  have t0 : (0 : Int32).toInt = 0 := by decide
  rw [i_le] at p3 p4 p5 u2
  rw [t0] at p3 u2
  rw [t5] at p5
  have es : (if V 13 u ≤ V 11 k then V 11 k else V 13 u) = pSec V k u := by
    unfold pSec
    by_cases c : V 13 u < V 11 k
    · rw [if_pos c, if_pos (by rw [i_lt] at c; rw [i_le]; omega)]
    · rw [if_neg c]
      by_cases d : V 13 u ≤ V 11 k
      · rw [if_pos d]
        rw [i_lt] at c
        rw [i_le] at d
        rw [i_eq]; omega
      · rw [if_neg d]
  have use : mUse Vm k (Vm 15 u) = if pSec V k u ≤ V 12 k then pSec V k u else -1 := by
    unfold mUse
    rw [p1, p2, u1, es]
  have sb : (pSec V k u).toInt = (V 13 u).toInt ∨ ((pSec V k u).toInt = (V 11 k).toInt ∧ (V 13 u).toInt < (V 11 k).toInt) := by
    unfold pSec
    split
    · rename_i c
      rw [i_lt] at c
      exact Or.inr ⟨rfl, c⟩
    · exact Or.inl rfl
  rw [use]
  by_cases c1 : V 13 u ≤ V 12 k
  · have c1' := (i_le _ _).mp c1
    have sl : pSec V k u ≤ V 12 k := by rw [i_le]; omega
    have s0 : 0 ≤ (pSec V k u).toInt := by
      rcases sb with q | q <;> omega
    rw [if_pos sl]
    have sl' := (i_le _ _).mp sl
    have sN : pSec V k u ≠ NEV := by
      intro z
      have q := congrArg Int32.toInt z
      rw [NEV_int] at q
      omega
    unfold mImp
    rw [if_neg (show ¬ pSec V k u < 0 by rw [i_lt, t0]; omega)]
    by_cases c2 : pSec V k u < V 13 v
    · have eC : pCarV V k u v = xu V 13 v (pSec V k u) := by unfold pCarV; rw [if_pos (pCar_t c1 c2)]
      have eM : (if Vm 15 v < 0 then xu Vm 15 v (pSec V k u) else if Vm 15 v ≤ pSec V k u then Vm else xu Vm 15 v (pSec V k u)) = xu Vm 15 v (pSec V k u) := by
        split
        · rfl
        · rename_i d
          rw [v1, enc_neg v2] at d
          rw [v1, enc_ne d, if_neg (i_nle.mpr c2)]
      rw [eC, eM]
      intro n hn
      rw [xu_row, xu_row]
      by_cases e : n = v
      · rw [if_pos e, if_pos e, enc_ne sN]
        exact ⟨rfl, by rw [i_le, t0]; exact s0⟩
      · rw [if_neg e, if_neg e]
        exact h n hn
    · have eC : pCarV V k u v = V := by unfold pCarV; rw [if_neg (pCar_f2 c2)]
      have c2' := i_nlt.mp c2
      have vN : V 13 v ≠ NEV := ne_NEV c2' sN
      rw [eC, v1, enc_ne vN, if_neg (i_nlt.mpr v2), if_pos c2']
      exact h
  · have eC : pCarV V k u v = V := by unfold pCarV; rw [if_neg (pCar_f1 c1)]
    rw [i_le] at c1
    rw [if_neg (show ¬ pSec V k u ≤ V 12 k by rw [i_le]; omega), eC]
    unfold mImp
    rw [if_pos (by decide)]
    exact h
theorem car_NEV {V Vm : xV} {k u v : Nat} (hp : RelP V Vm k) (h : V 13 u = NEV) : ¬ pCarB V k u v = true := by
  obtain ⟨-, -, p1, p2, p3, p4, p5⟩ := hp
  refine pCar_f1 ?_
  rw [h, i_le, NEV_int]
  rw [i_le] at p5
  have t5 : (100000 : Int32).toInt = 100000 := by decide
  omega
theorem AR.spread {V Vm : xV} {nc a : Nat} (h : AR V Vm) (hp : HP nc V Vm) (ha : a < 8) (hne : V 13 a ≠ NEV) (k : Nat) (hk : k ≤ nc) : AR (pSp V a k) (mSpr Vm a k) ∧ pSp V a k 13 a ≠ NEV := by
  induction k with
  | zero => exact ⟨h, hne⟩
  | succ k ih =>
    obtain ⟨i1, i2⟩ := ih (by omega)
    obtain ⟨t1, t2, t3, t4⟩ := hp.two (show k < nc from hk)
    have hp' : RelP (pSp V a k) (mSpr Vm a k) k := (hp.eq (pSp_o _ _ _ (by decide)) (pSp_o _ _ _ (by decide)) (pSp_o _ _ _ (by decide)) (pSp_o _ _ _ (by decide)) (mSpr_o _ _ _ (by decide))) k hk
    unfold pSp mSpr
    rw [t1, t2]
    split
    · exact ⟨i1.carry hp' ha t4 i2, ne_NEV (pCar_le _ _ _ _ _) i2⟩
    · split
      · exact ⟨i1.carry hp' ha t3 i2, ne_NEV (pCar_le _ _ _ _ _) i2⟩
      · exact ⟨i1, i2⟩
theorem near_eq {V Vm : xV} (h : AR V Vm) (hs : AS V Vm) (k : Nat) (hk : k ≤ 8) : pNr V k = mNear Vm k := by
  induction k with
  | zero => rfl
  | succ k ih =>
    have ih := ih (by omega)
    obtain ⟨k1, k2⟩ := h k hk
    have e : (V 14 k = 0 ∧ ¬ pEa V k ≤ V 13 k) ↔ (Vm 16 k = 0 ∧ ¬ Vm 15 k < 0 ∧ (mNear Vm k = 0 ∨ ¬ Vm 15 (mNear Vm k - 1) ≤ Vm 15 k)) := by
      rw [hs k hk, k1, enc_neg k2]
      refine and_congr_right (fun _ => ?_)
      unfold pEa
      rw [ih]
      by_cases c : mNear Vm k = 0
      · rw [if_pos c]
        constructor
        · intro z
          exact ⟨fun q => z (by rw [q]; exact (i_le _ _).mpr (Int.le_refl _)), Or.inl c⟩
        · intro z q
          exact z.1 (by have := le_NEV (V 13 k); rw [i_le] at q this; rw [i_eq]; omega)
      · rw [if_neg c]
        have l := mNear_le Vm k
        obtain ⟨f1, f2⟩ := h (mNear Vm k - 1) (by omega)
        have un := (mNear_un Vm k c).2
        rw [f1, enc_neg f2] at un
        rw [f1, enc_ne un]
        constructor
        · intro z
          have kN : V 13 k ≠ NEV := fun q => z (by rw [q]; exact le_NEV _)
          exact ⟨kN, Or.inr (by rw [enc_ne kN]; exact z)⟩
        · rintro ⟨kN, z | z⟩
          · exact absurd z c
          · rw [enc_ne kN] at z; exact z
    by_cases c : V 14 k = 0 ∧ ¬ pEa V k ≤ V 13 k
    · obtain ⟨d1, d2, d3⟩ := e.mp c
      rw [pNr_t c.1 c.2, mNear_t d1 d2 d3]
    · rw [pNr_f c, mNear_f (fun z => c (e.mpr z)), ih]
theorem pEa_le {V : xV} (k y : Nat) (hy : y < k) (h : V 14 y = 0) : pEa V k ≤ V 13 y := by
  induction k with
  | zero => exact absurd hy (Nat.not_lt_zero y)
  | succ k ih =>
    by_cases c : V 14 k = 0 ∧ ¬ pEa V k ≤ V 13 k
    · rw [pEa_t c.1 c.2]
      by_cases e : y = k
      · rw [e]; exact (i_le _ _).mpr (Int.le_refl _)
      · have z := ih (by omega)
        have q := c.2
        rw [i_le] at z q ⊢
        omega
    · rw [pEa_f c]
      by_cases e : y = k
      · subst e
        exact Decidable.byContradiction (fun z => c ⟨h, z⟩)
      · exact ih (by omega)
/-- the nearest: found, and no later than any that is not settled -/
theorem pNr_spec {V : xV} (h : pNr V 8 ≠ 0) : pNr V 8 - 1 < 8 ∧ (∀ y, y < 8 → V 14 y = 0 → V 13 (pNr V 8 - 1) ≤ V 13 y) := by
  have l := pNr_le V 8
  refine ⟨by omega, fun y hy z => ?_⟩
  have q := pEa_le 8 y hy z
  unfold pEa at q
  rw [if_neg h] at q
  exact q
theorem lock {nc : Nat} (f : Nat) {V Vm : xV} (h : AR V Vm) (hs : AS V Vm) (hp : HP nc V Vm) : AR (pRun nc 8 f V) (mRun nc f Vm) := by
  induction f generalizing V Vm with
  | zero => exact h
  | succ f ih =>
    have e := near_eq h hs 8 (Nat.le_refl 8)
    unfold pRun mRun
    rw [e]
    by_cases c : mNear Vm 8 = 0
    · rw [if_pos c, if_pos c]; exact h
    · have l := mNear_le Vm 8
      rw [if_neg c, if_neg c, if_neg (by omega)]
      have un := (mNear_un Vm 8 c).2
      obtain ⟨f1, f2⟩ := h (mNear Vm 8 - 1) (by omega)
      rw [f1, enc_neg f2] at un
      generalize hA : mNear Vm 8 - 1 = a at *
      have ha : a < 8 := by omega
      have h1 : AR (xu V 14 a 1) (xu Vm 16 a 1) := fun n hn => by
        rw [xu_ne _ _ _ (by decide), xu_ne _ _ _ (by decide)]; exact h n hn
      have hp1 : HP nc (xu V 14 a 1) (xu Vm 16 a 1) := hp.eq (xu_ne _ _ _ (by decide)) (xu_ne _ _ _ (by decide)) (xu_ne _ _ _ (by decide)) (xu_ne _ _ _ (by decide)) (xu_ne _ _ _ (by decide))
      refine ih (h1.spread hp1 ha (by rw [xu_ne _ _ _ (by decide)]; exact un) nc (Nat.le_refl _)).1 ?_ (hp1.eq (pSp_o _ _ _ (by decide)) (pSp_o _ _ _ (by decide)) (pSp_o _ _ _ (by decide)) (pSp_o _ _ _ (by decide)) (mSpr_o _ _ _ (by decide)))
      intro n hn
      rw [pSp_o _ _ _ (by decide), mSpr_o _ _ _ (by decide), xu_row, xu_row]
      by_cases q : n = a
      · rw [if_pos q, if_pos q]
      · rw [if_neg q, if_neg q]; exact hs n hn
/-- what is not later than the node that spreads keeps its second -/
theorem pSp_keep {V : xV} (a k : Nat) : ∀ y, (pSp V a k 13 y = V 13 y ∨ V 13 a ≤ pSp V a k 13 y) ∧ pSp V a k 13 y ≤ V 13 y := by
  induction k with
  | zero => exact fun y => ⟨Or.inl rfl, (i_le _ _).mpr (Int.le_refl _)⟩
  | succ k ih =>
    have ea : pSp V a k 13 a = V 13 a := by
      obtain ⟨q1 | q1, q2⟩ := ih a
      · exact q1
      · rw [i_le] at q1 q2
        rw [i_eq]; omega
    have go : ∀ v, ∀ y, (pCarV (pSp V a k) k a v 13 y = V 13 y ∨ V 13 a ≤ pCarV (pSp V a k) k a v 13 y) ∧ pCarV (pSp V a k) k a v 13 y ≤ V 13 y := by
      intro v y
      refine ⟨?_, ?_⟩
      · rcases pCar_cases (pSp V a k) k a v with e | ⟨e, h⟩
        · rw [e]; exact (ih y).1
        · rw [e, xu_row]
          split
          · right
            have z := pSec_ge (pSp V a k) k a
            rw [ea] at z
            exact z
          · exact (ih y).1
      · have z := pCar_le (pSp V a k) k a v y
        have z2 := (ih y).2
        rw [i_le] at z z2 ⊢
        omega
    unfold pSp
    split
    · exact go _
    · split
      · exact go _
      · exact ih
theorem run_stay {nc d : Nat} (f : Nat) {V : xV} (h : ∀ y, y < 8 → V 14 y = 0 → V 13 d ≤ V 13 y) : pRun nc 8 f V 13 d = V 13 d := by
  induction f generalizing V with
  | zero => rfl
  | succ f ih =>
    unfold pRun
    by_cases c : pNr V 8 = 0
    · rw [if_pos c]
    · obtain ⟨s1, s2⟩ := pNr_spec c
      rw [if_neg c, if_neg (by omega)]
      have un : V 14 (pNr V 8 - 1) = 0 := by
        have z : ∀ k, pNr V k ≠ 0 → V 14 (pNr V k - 1) = 0 := by
          intro k
          induction k with
          | zero => exact fun q => absurd rfl q
          | succ k ih2 =>
            intro q
            by_cases w : V 14 k = 0 ∧ ¬ pEa V k ≤ V 13 k
            · rw [pNr_t w.1 w.2]; exact w.1
            · rw [pNr_f w] at q ⊢; exact ih2 q
        exact z 8 c
      generalize pNr V 8 - 1 = a at *
      have hda := h a s1 un
      have k := pSp_keep (V := xu V 14 a 1) a nc
      rw [xu_ne V (i := 14) (j := 13) a 1 (by decide)] at k
      have kd : pSp (xu V 14 a 1) a nc 13 d = V 13 d := by
        obtain ⟨q1 | q1, q2⟩ := k d
        · exact q1
        · rw [i_le] at q1 q2 hda
          rw [i_eq]; omega
      rw [ih, kd]
      intro y hy hy0
      rw [kd]
      rw [pSp_o _ _ _ (by decide), xu_row] at hy0
      have hy1 : V 14 y = 0 := by
        by_cases e : y = a
        · rw [if_pos e] at hy0; exact absurd hy0 (by decide)
        · rw [if_neg e] at hy0; exact hy0
      obtain ⟨q1 | q1, q2⟩ := k y
      · rw [q1]; exact h y hy hy1
      · rw [i_le] at q1 hda ⊢; omega
theorem run_stop {nc d : Nat} (hd : d < 8) (f : Nat) (V : xV) : pRun nc d f V 13 d = pRun nc 8 f V 13 d := by
  induction f generalizing V with
  | zero => rfl
  | succ f ih =>
    by_cases c : pNr V 8 = 0
    · unfold pRun
      rw [if_pos c, if_pos c]
    · obtain ⟨s1, s2⟩ := pNr_spec c
      by_cases e : pNr V 8 - 1 = d
      · rw [run_stay (d := d) (f + 1) (V := V) (by rw [← e]; exact s2)]
        unfold pRun
        rw [if_neg c, if_pos e]
      · unfold pRun
        rw [if_neg c, if_neg e, if_neg c, if_neg (by omega)]
        exact ih _
theorem run_fuel {nc : Nat} (f : Nat) (V : xV) (h : mUnf V ≤ f) : mRun nc (f + 1) V = mRun nc f V := by
  induction f generalizing V with
  | zero =>
    show (if mNear V 8 = 0 then V else _) = V
    by_cases c : mNear V 8 = 0
    · rw [if_pos c]
    · exfalso
      have l := mNear_le V 8
      have un := (mNear_un V 8 c).1
      have z := cntP_lt (P := fun j => decide (V 16 j = 0)) (show mNear V 8 - 1 < 8 by omega) (decide_eq_true un)
      unfold mUnf at h
      omega
  | succ f ih =>
    show (if mNear V 8 = 0 then V else mRun nc (f + 1) (mSpr (xu V 16 (mNear V 8 - 1) 1) (mNear V 8 - 1) nc)) = (if mNear V 8 = 0 then V else mRun nc f (mSpr (xu V 16 (mNear V 8 - 1) 1) (mNear V 8 - 1) nc))
    by_cases c : mNear V 8 = 0
    · rw [if_pos c, if_pos c]
    · rw [if_neg c, if_neg c]
      have l := mNear_le V 8
      exact ih _ (by have := mUnf_lt V (mNear V 8 - 1) nc (by omega) (mNear_un V 8 c).1; omega)
/-- what arrivals rest on -/
def AH (nc : Nat) (V Vm : xV) : Prop := HP nc V Vm ∧ ∃ T, T < 2147483647 ∧ V 0 0 = nI T ∧ Vm 17 19 = nI T
theorem AH.beg {nc : Nat} {V Vm : xV} (h : AH nc V Vm) (n : Nat) : AR (pBeg V n (V 0 0)) (mBeg Vm n 8) ∧ AS (pBeg V n (V 0 0)) (mBeg Vm n 8) ∧ HP nc (pBeg V n (V 0 0)) (mBeg Vm n 8) := by
  obtain ⟨hp, T, hT, v0, vm⟩ := h
  refine ⟨fun m hm => ?_, fun m hm => ?_, hp.eq (pBeg_o _ _ _ (by decide) (by decide)) (pBeg_o _ _ _ (by decide) (by decide)) (pBeg_o _ _ _ (by decide) (by decide)) (pBeg_o _ _ _ (by decide) (by decide)) (mBeg_o _ _ _ (by decide) (by decide))⟩
  · unfold pBeg mBeg pSt
    rw [xu_row, if_pos rfl, v0]
    simp only [if_pos, hm]
    rw [vm]
    by_cases e : m = n
    · rw [if_pos e, if_pos e, enc_ne]
      · exact ⟨rfl, nI_pos' (by omega)⟩
      · intro z
        have q := congrArg Int32.toInt z
        rw [NEV_int, nI_toInt (by omega)] at q
        omega
    · rw [if_neg e, if_neg e]
      exact ⟨enc_NEV.symm, by decide⟩
  · have e1 : pBeg V n (V 0 0) 14 m = 0 := by unfold pBeg pSt; rw [xu_ne _ _ _ (by decide)]; simp [hm]
    have e2 : mBeg Vm n 8 16 m = 0 := by unfold mBeg; simp [hm]
    rw [e1, e2]
theorem unf_le (V : xV) : mUnf V ≤ 8 := cntP_le _ _
/-- both reach alike -/
theorem AH.reach {nc : Nat} {V Vm : xV} (h : AH nc V Vm) {n d : Nat} (hd : d < 8) : mFin Vm n nc 15 d = enc (pFin V n d nc (V 0 0) 13 d) ∧ 0 ≤ pFin V n d nc (V 0 0) 13 d := by
  obtain ⟨a1, a2, a3⟩ := h.beg n
  unfold mFin pFin
  rw [run_fuel 8 _ (unf_le _), run_stop hd]
  exact lock 8 a1 a2 a3 d hd
theorem AH.eq {nc : Nat} {V Vm W Wm : xV} (h : AH nc V Vm) (e0 : W 0 = V 0) (e9 : W 9 = V 9) (e10 : W 10 = V 10) (e11 : W 11 = V 11) (e12 : W 12 = V 12) (m12 : Wm 12 = Vm 12) (m17 : Wm 17 19 = Vm 17 19) : AH nc W Wm := by
  obtain ⟨hp, T, hT, v0, vm⟩ := h
  exact ⟨hp.eq e9 e10 e11 e12 m12, T, hT, by rw [e0]; exact v0, by rw [m17]; exact vm⟩
theorem Rel.ah {nb nc t : Nat} {od : Nat → Nat} {V Vm : xV} (h : Rel nb nc t od V Vm) (ht : t ≤ 512) : AH nc V Vm := by
  obtain ⟨h1, h2, h3, h4, h5, h6, ⟨T, h7, h8, h9⟩, h10, h11, h12, h13, h14⟩ := h
  exact ⟨h13, T, by omega, h8, h9⟩
