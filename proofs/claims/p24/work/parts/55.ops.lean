/-! THE CALLS THAT CHANGE keep the invariant -/
section PMs
variable {nb : Nat} {od : Nat → Nat}
theorem pm_lt (h : ((List.range nb).map od).Perm (List.range nb)) : ∀ i, i < nb → od i < nb := by
  intro i hi
  have z := h.mem_iff (a := od i)
  rw [List.mem_range] at z
  exact z.mp (List.mem_map.mpr ⟨i, List.mem_range.mpr hi, rfl⟩)
theorem pm_sur (h : ((List.range nb).map od).Perm (List.range nb)) {k : Nat} (hk : k < nb) : ∃ i, i < nb ∧ od i = k := by
  have z := (h.mem_iff (a := k)).mpr (List.mem_range.mpr hk)
  obtain ⟨i, hi, e⟩ := List.mem_map.mp z
  exact ⟨i, List.mem_range.mp hi, e⟩
theorem pm_cnt (h : ((List.range nb).map od).Perm (List.range nb)) (P : Nat → Bool) : cntP (fun i => P (od i)) nb = cntP P nb := by
  rw [cntP_list, cntP_list, ← h.countP_eq P, List.countP_map]
  rfl
theorem cnt_none (n : Nat) : cntP (fun _ => false) n = 0 := by
  induction n with
  | zero => rfl
  | succ n ih => rw [cntP_f (by decide), ih]
theorem pm_inj (h : ((List.range nb).map od).Perm (List.range nb)) : ∀ i j, i < nb → j < nb → od i = od j → i = j := by
  intro i j hi hj e
  have z := pm_cnt h (fun x => decide (x = od i))
  have u := cnt_up (P := fun _ => false) (Q := fun x => decide (x = od i)) (od i) nb (fun y _ hne q => absurd (of_decide_eq_true q) hne)
  rw [cnt_none, if_pos (pm_lt h i hi)] at u
  have pi : (fun x => decide (od x = od i)) i = true := decide_eq_true rfl
  have pj : (fun x => decide (od x = od i)) j = true := decide_eq_true e.symm
  rcases Nat.lt_trichotomy i j with c | c | c
  · have q1 := cntP_lt (P := fun x => decide (od x = od i)) c pi
    have q2 := cntP_lt (P := fun x => decide (od x = od i)) hj pj
    have q3 : cntP (fun x => decide (od x = od i)) nb = cntP (fun x => decide (x = od i)) nb := z
    omega
  · exact c
  · have q1 := cntP_lt (P := fun x => decide (od x = od i)) c pj
    have q2 := cntP_lt (P := fun x => decide (od x = od i)) hi pi
    have q3 : cntP (fun x => decide (od x = od i)) nb = cntP (fun x => decide (x = od i)) nb := z
    omega
end PMs
/-- THE INVARIANT: t calls that change so far, nb bundles in the order od, nc contacts, S k bounds the copies of the bundle k -/
def INV (t nb nc : Nat) (od : Nat → Nat) (S : Nat → Nat) (V : xV) : Prop :=
  (V 4 2 = nI nb ∧ V 5 2 = nI nb ∧ nb ≤ 40) ∧ (V 6 6 = nI nc ∧ nc ≤ 30 ∧ CT V nc) ∧ ((List.range nb).map od).Perm (List.range nb) ∧ ∃ T, T ≤ 10000 * t ∧ V 0 0 = nI T ∧ INB (20 * t) (10000 * (t + 1)) T nb S V
section IV
variable {t nb nc : Nat} {od : Nat → Nat} {S : Nat → Nat} {V : xV}
theorem INV.mono (h : INV t nb nc od S V) {t' : Nat} (ht : t ≤ t') : INV t' nb nc od S V := by
  obtain ⟨h1, h2, h3, T, h4, h5, h6⟩ := h
  exact ⟨h1, h2, h3, T, by omega, h5, h6.mono (by omega) (by omega)⟩
/-- the rows in which arrivals are worked out are free, and the law's own rows -/
theorem INV.sc (h : INV t nb nc od S V) {W : xV} (e : ∀ i, i < 13 ∨ 20 ≤ i → W i = V i) : INV t nb nc od S W := by
  obtain ⟨h1, ⟨h2, h22, h23⟩, h3, T, h4, h5, h6⟩ := h
  refine ⟨by rw [e 4 (by omega), e 5 (by omega)]; exact h1, ⟨by rw [e 6 (by omega)]; exact h2, h22, h23.eq (e 9 (by omega)) (e 10 (by omega)) (e 12 (by omega))⟩, h3, T, h4, by rw [e 0 (by omega)]; exact h5, h6.eq (fun k _ i _ => by rw [e _ (by omega)]) (fun k _ j _ _ => e _ (by omega)) (e 1 (by omega))⟩
theorem INV.cp (h : INV t nb nc od S V) : cPl V nc := h.2.1.2.2.cp
theorem INV.meet (h : INV t nb nc od S V) (ht : t ≤ 100000) {a b mo : Nat} (ha : a < 8) (hb8 : b < 8) (hab : a ≠ b) (hmo : mo ≤ 20) :
    ∃ m1 m2, (cN2 V od a b nb (nI mo)).1 = nI m1 ∧ (cN3 V od a b nb (nI mo)).1 = nI m2 ∧ m1 + m2 ≤ mo ∧ INV (t + 1) nb nc od S (cMv (cN3 V od a b nb (nI mo)).2 a b nc nb) ∧ (∀ i, i < 20 → i ≠ 2 → i ≠ 3 → i ≠ 13 → i ≠ 14 → cMv (cN3 V od a b nb (nI mo)).2 a b nc nb i = V i) ∧ KN a b nb (cMv (cN3 V od a b nb (nI mo)).2 a b nc nb) ∧ (m1 < mo → ∀ k, k < nb → UN a b (cMv (cN3 V od a b nb (nI mo)).2 a b nc nb) k) ∧ ((∀ k, k < nb → UN a b V k) → ∀ k, cMv (cN3 V od a b nb (nI mo)).2 a b nc nb (20 + 4 * k) 8 = V (20 + 4 * k) 8) := by
  obtain ⟨⟨h1, h12, hb⟩, ⟨h2, h22, h23⟩, h3, T, h4, h5, h6⟩ := h
  have hod := pm_lt h3
  have hinj := pm_inj h3
  have hT : T < 2 ^ 31 := by omega
  -- receipts
  obtain ⟨i1, i2, i3⟩ := talk h6 hT ha hb8 nb (Nat.le_refl nb)
  -- marks
  have fz : ∀ i, i < 20 ∨ i % 4 ≠ 0 → cN1 V a b nb i = cTalk V a b nb i := fun i hi => find_z _ _ _ _ hi
  have ff : ∀ k i, i ≠ 10 → cN1 V a b nb (20 + 4 * k) i = cTalk V a b nb (20 + 4 * k) i := fun k i hi => cFind_f _ _ _ _ _ hi
  have j1 : INB (20 * t) (10000 * (t + 1)) T nb S (cN1 V a b nb) := i1.eq (fun k _ i hi => ff k i hi) (fun k _ j q1 q2 => fz _ (by omega)) (fz 1 (by omega))
  have jK : KN a b nb (cN1 V a b nb) := fun k hk => by rw [fz _ (by omega)]; exact i3 k hk
  have jg := find_g (cTalk V a b nb) ha hb8 hab nb
  have j0 : cN1 V a b nb 0 0 = nI T := by rw [cN1_o _ _ _ _ (by decide)]; exact h5
  have jU : (∀ k, k < nb → UN a b V k) → ∀ k, k < nb → UN a b (cN1 V a b nb) k := fun hu k hk => by
    have q := (hu k hk).cd i2
    unfold UN at q ⊢
    rw [fz _ (by omega), ff k 1 (by decide)]
    exact q
  -- deliveries
  obtain ⟨m1, d1, -, d2, d3, d4, d5, d6⟩ := dl_spec hod ha hb8 hT hmo (nb + 1) 0 0 (cN1 V a b nb) (by omega) (by omega) (by omega) j1 j0 jK (fun j hj => absurd hj (Nat.not_lt_zero j))
  have e2 : cN2 V od a b nb (nI mo) = cDl od a b nb (nI mo) (nb + 1) 0 (nI 0) (cN1 V a b nb) := rfl
  rw [← e2] at d1 d3 d4 d5 d6
  have g10 : ∀ k, (cN2 V od a b nb (nI mo)).2 (20 + 4 * k) 10 = cN1 V a b nb (20 + 4 * k) 10 := fun k => cDl_10 _ _ _ _ _ _ _ _ _ k
  have g1 : ∀ k, (cN2 V od a b nb (nI mo)).2 (20 + 4 * k) 1 = cTalk V a b nb (20 + 4 * k) 1 := fun k => by rw [d5.2 k 1 (by decide), ff k 1 (by decide)]
  have gV : ∀ k, k < nb → GV a b (cN2 V od a b nb (nI mo)).2 k := fun k hk => by
    unfold GV
    rw [g10, g1]
    intro zz
    rcases zz with z | z
    · exact ⟨((jg k hk).1 z).1, ((jg k hk).1 z).2.1⟩
    · exact ⟨((jg k hk).2 z).1, ((jg k hk).2 z).2.1⟩
  have gZ : ∀ k, k < nb → GZ a b (cN2 V od a b nb (nI mo)).2 k := fun k hk => by
    unfold GZ
    rw [g10]
    exact ⟨fun z y => ((jg k hk).1 z).2.2 (by rw [← fz _ (by omega)]; exact d5.1 k b y), fun z y => ((jg k hk).2 z).2.2 (by rw [← fz _ (by omega)]; exact d5.1 k a y)⟩
  -- sprays
  have e3 : cN3 V od a b nb (nI mo) = cSl od a b nb (nI (mo - m1)) (nb + 1) 0 (nI 0) (cN2 V od a b nb (nI mo)).2 := by
    show cSl od a b nb (nI mo - (cN2 V od a b nb (nI mo)).1) (nb + 1) 0 0 _ = _
    rw [d1, pk_sub d2]
    rfl
  obtain ⟨m2, s1, s2, s3, s4, s5⟩ := sl_spec (UP := m1 < mo) hod hinj hb ha hb8 hab (show mo - m1 ≤ 20 by omega) (nb + 1) 0 0 (cN2 V od a b nb (nI mo)).2 (by omega) (by omega) (by omega) d3 d4 gV (fun j _ hj => gZ (od j) (hod j hj)) (fun up k hk => by
    obtain ⟨i, hi, e⟩ := pm_sur h3 hk
    rw [← e]; exact d6 up i hi)
  rw [← e3] at s1 s3 s4 s5
  have lo : ∀ i, i < 20 → i ≠ 2 → i ≠ 3 → i ≠ 13 → i ≠ 14 → cMv (cN3 V od a b nb (nI mo)).2 a b nc nb i = V i := fun i q1 q2 q3 q4 q5 => by
    rw [mv_z _ _ _ _ _ (Or.inl q1) q4 q5, e3, sl_o _ _ _ _ _ _ _ _ _ q1 q2 q3, cN2_o _ _ _ _ _ _ q1]
  have mz : ∀ i, i % 4 ≠ 0 → 20 ≤ i → cMv (cN3 V od a b nb (nI mo)).2 a b nc nb i = (cN3 V od a b nb (nI mo)).2 i := fun i q1 q2 => mv_z _ _ _ _ _ (Or.inr q1) (by omega) (by omega)
  refine ⟨m1, m2, d1, s1, by omega, ⟨⟨by rw [lo 4 (by decide) (by decide) (by decide) (by decide) (by decide)]; exact h1, by rw [lo 5 (by decide) (by decide) (by decide) (by decide) (by decide)]; exact h12, hb⟩, ⟨by rw [lo 6 (by decide) (by decide) (by decide) (by decide) (by decide)]; exact h2, h22, h23.eq (lo 9 (by decide) (by decide) (by decide) (by decide) (by decide)) (lo 10 (by decide) (by decide) (by decide) (by decide) (by decide)) (lo 12 (by decide) (by decide) (by decide) (by decide) (by decide))⟩, h3, T, by omega, by rw [lo 0 (by decide) (by decide) (by decide) (by decide) (by decide)]; exact h5, (s3.mono (show 20 * t + m2 ≤ 20 * (t + 1) by omega) (show 10000 * (t + 1) ≤ 10000 * (t + 1 + 1) by omega)).mv ha hb8 nc nb (Nat.le_refl nb)⟩, lo, fun k hk => ?_, fun up k hk => ?_, fun hu k => ?_⟩
  · rw [mz _ (by omega) (by omega)]; exact s4 k hk
  · have q := s5 up k hk
    unfold UN at q ⊢
    rw [mz _ (by omega) (by omega), cMv_f _ _ _ _ _ _ (by decide)]
    exact q
  · rw [cMv_f _ _ _ _ _ _ (by decide), e3, cSl_f, e2, dl_none (fun j hj => jU hu (od j) (hod j hj))]
    show cN1 V a b nb (20 + 4 * k) 8 = _
    rw [ff k 8 (by decide), cTalk_f _ _ _ _ _ (by decide)]
/-- seconds pass -/
theorem pass_k {M E T d : Nat} {V1 : xV} (hb : E < 2 ^ 31 ∧ T + d < 2 ^ 31) (h : ∀ k, k < nb → BK M E T (S k) V1 k) (k : Nat) (hk : k ≤ nb) :
    (∀ j, j < k → BK M E (T + d) (S j) (cPass V1 (nI T) (nI (T + d)) k) j) ∧ (∀ j, k ≤ j → j < nb → BK M E T (S j) (cPass V1 (nI T) (nI (T + d)) k) j) ∧ ∀ j n, n < 8 → 0 < cPass V1 (nI T) (nI (T + d)) k (20 + 4 * j + 1) n → 0 < V1 (20 + 4 * j + 1) n := by
  induction k with
  | zero => exact ⟨fun j hj => absurd hj (Nat.not_lt_zero j), fun j _ hj => h j hj, fun _ _ _ z => z⟩
  | succ k ih =>
    obtain ⟨i1, i2, i3⟩ := ih (by omega)
    have f3 : cPass V1 (nI T) (nI (T + d)) k (20 + 4 * k) 3 = V1 (20 + 4 * k) 3 := cPass_f _ _ _ _ _ (by decide)
    have bk := i2 k (Nat.le_refl k) (by omega)
    by_cases c : cOver V1 (nI T) (nI (T + d)) k = true
    · rw [show cPass V1 (nI T) (nI (T + d)) (k + 1) = bGone (cPass V1 (nI T) (nI (T + d)) k) (20 + 4 * k) from if_pos c]
      unfold cOver at c
      rw [Bool.and_eq_true] at c
      have c2 := of_decide_eq_true c.2
      have oth : ∀ j, j ≠ k → ∀ q, q < 4 → bGone (cPass V1 (nI T) (nI (T + d)) k) (20 + 4 * k) (20 + 4 * j + q) = cPass V1 (nI T) (nI (T + d)) k (20 + 4 * j + q) := fun j e q hq => bGone_o _ _ (by omega) (by omega) (by omega)
      refine ⟨fun j hj => ?_, fun j hj1 hj2 => ?_, fun j n hn z => ?_⟩
      · by_cases e : j = k
        · subst e
          exact bk.gone (by omega) hb (by rw [f3]; exact i_nlt.mp c2)
        · exact (i1 j (by omega)).eq (fun i _ => congrFun (oth j e 0 (by omega)) i) (oth j e 1 (by omega)) (oth j e 2 (by omega)) (oth j e 3 (by omega))
      · have e : j ≠ k := by omega
        exact (i2 j (by omega) hj2).eq (fun i _ => congrFun (oth j e 0 (by omega)) i) (oth j e 1 (by omega)) (oth j e 2 (by omega)) (oth j e 3 (by omega))
      · by_cases e : j = k
        · subst e
          rw [bGone_1 _ _ _ hn] at z
          exact absurd z (by decide)
        · rw [oth j e 1 (by omega)] at z
          exact i3 j n hn z
    · rw [show cPass V1 (nI T) (nI (T + d)) (k + 1) = cPass V1 (nI T) (nI (T + d)) k from if_neg c]
      refine ⟨fun j hj => ?_, fun j hj1 hj2 => i2 j (by omega) hj2, i3⟩
      by_cases e : j = k
      · subst e
        refine bk.tick (by omega) hb ?_
        rw [f3]
        by_cases q : V1 (20 + 4 * j) 3 ≤ nI T
        · exact Or.inl q
        · refine Or.inr (fun z => c ?_)
          unfold cOver
          rw [Bool.and_eq_true]
          exact ⟨decide_eq_true q, decide_eq_true (i_nlt.mpr z)⟩
      · exact i1 j (by omega)
theorem INV.pass (h : INV t nb nc od S V) (ht : t ≤ 100000) {d : Nat} (hd : d ≤ 10000) : INV (t + 1) nb nc od S (cPass (xu V 0 0 (V 0 0 + nI d)) (V 0 0) (V 0 0 + nI d) nb) ∧ ∀ i, i < 20 → i ≠ 0 → cPass (xu V 0 0 (V 0 0 + nI d)) (V 0 0) (V 0 0 + nI d) nb i = V i := by
  obtain ⟨⟨h1, h12, hb⟩, ⟨h2, h22, h23⟩, h3, T, h4, h5, h6⟩ := h
  have lo : ∀ i, i < 20 → i ≠ 0 → cPass (xu V 0 0 (V 0 0 + nI d)) (V 0 0) (V 0 0 + nI d) nb i = V i := fun i q1 q2 => by rw [cPass_o _ _ _ _ q1, xu_ne _ _ _ q2]
  refine ⟨?_, lo⟩
  have l0 : cPass (xu V 0 0 (V 0 0 + nI d)) (V 0 0) (V 0 0 + nI d) nb 0 0 = nI (T + d) := by
    rw [cPass_o _ _ _ _ (by decide), xu_row, if_pos rfl, h5, nI_add]
  have hx : ∀ i, i ≠ 0 → xu V 0 0 (V 0 0 + nI d) i = V i := fun i q => xu_ne _ _ _ q
  have hB : ∀ k, k < nb → BK (20 * t) (10000 * (t + 1)) T (S k) (xu V 0 0 (V 0 0 + nI d)) k := fun k hk => (h6.1 k hk).eq (fun i _ => congrFun (hx _ (by omega)) i) (hx _ (by omega)) (hx _ (by omega)) (hx _ (by omega))
  obtain ⟨p1, -, p3⟩ := pass_k (d := d) (nb := nb) (S := S) ⟨by omega, by omega⟩ hB nb (Nat.le_refl nb)
  have e1 : cPass (xu V 0 0 (V 0 0 + nI d)) (nI T) (nI (T + d)) nb = cPass (xu V 0 0 (V 0 0 + nI d)) (V 0 0) (V 0 0 + nI d) nb := by rw [h5, nI_add]
  rw [e1] at p1 p3
  refine ⟨⟨by rw [lo 4 (by decide) (by decide)]; exact h1, by rw [lo 5 (by decide) (by decide)]; exact h12, hb⟩, ⟨by rw [lo 6 (by decide) (by decide)]; exact h2, h22, h23.eq (lo 9 (by decide) (by decide)) (lo 10 (by decide) (by decide)) (lo 12 (by decide) (by decide))⟩, h3, T + d, by omega, l0, fun k hk => (p1 k hk).mono (by omega) (by omega), fun n hn => ?_⟩
  obtain ⟨p, q1, q2, q3, q4⟩ := h6.2 n hn
  refine ⟨p, q1, q2, by rw [lo 1 (by decide) (by decide)]; exact q3, Nat.le_trans (cnt_le nb fun y hy q => ?_) q4⟩
  rw [cHas_iff] at *
  have z := p3 y n hn q
  rw [hx _ (by omega)] at z
  exact z
theorem INV.buf (h : INV t nb nc od S V) {n q : Nat} (hq : 1 ≤ q ∧ q ≤ 8) (hc : nI (cntP (cHas V n) nb) ≤ nI q) : INV (t + 1) nb nc od S (xu V 1 n (nI q)) := by
  have h' := (h.mono (Nat.le_succ t))
  obtain ⟨⟨h1, h12, hb⟩, ⟨h2, h22, h23⟩, h3, T, h4, h5, h6⟩ := h'
  have hx : ∀ i, i ≠ 1 → xu V 1 n (nI q) i = V i := fun i z => xu_ne _ _ _ z
  have cl := cntP_le (cHas V n) nb
  rw [nI_leI (by omega) (by omega)] at hc
  refine ⟨⟨by rw [hx 4 (by decide)]; exact h1, by rw [hx 5 (by decide)]; exact h12, hb⟩, ⟨by rw [hx 6 (by decide)]; exact h2, h22, h23.eq (hx 9 (by decide)) (hx 10 (by decide)) (hx 12 (by decide))⟩, h3, T, h4, by rw [hx 0 (by decide)]; exact h5, fun k hk => (h6.1 k hk).eq (fun i _ => congrFun (hx _ (by omega)) i) (hx _ (by omega)) (hx _ (by omega)) (hx _ (by omega)), fun m hm => ?_⟩
  obtain ⟨p, q1, q2, q3, q4⟩ := h6.2 m hm
  have e : cHas (xu V 1 n (nI q)) m = cHas V m := by
    funext k
    unfold cHas
    rw [hx _ (by omega)]
  unfold NB
  rw [xu_row, e]
  by_cases c : m = n
  · rw [if_pos c, c]
    exact ⟨q, hq.1, hq.2, rfl, hc⟩
  · rw [if_neg c]
    exact ⟨p, q1, q2, q3, q4⟩
theorem INV.con (h : INV t nb nc od S V) {x y : Nat} (hx8 : x < 8) (hy8 : y < 8) {f g : Int32} (hg : g ≤ 100000) (hc : nc < 30) : INV (t + 1) nb (nc + 1) od S (xu (xu (xu (xu (xu V 9 nc (nI x)) 10 nc (nI y)) 11 nc f) 12 nc g) 6 6 (nI (nc + 1))) := by
  have h' := (h.mono (Nat.le_succ t))
  obtain ⟨⟨h1, h12, hb⟩, ⟨h2, h22, h23⟩, h3, T, h4, h5, h6⟩ := h'
  have hx : ∀ i, i ≠ 9 → i ≠ 10 → i ≠ 11 → i ≠ 12 → i ≠ 6 → xu (xu (xu (xu (xu V 9 nc (nI x)) 10 nc (nI y)) 11 nc f) 12 nc g) 6 6 (nI (nc + 1)) i = V i := fun i z1 z2 z3 z4 z5 => by
    rw [xu_ne _ _ _ z5, xu_ne _ _ _ z4, xu_ne _ _ _ z3, xu_ne _ _ _ z2, xu_ne _ _ _ z1]
  refine ⟨⟨by rw [hx 4 (by decide) (by decide) (by decide) (by decide) (by decide)]; exact h1, by rw [hx 5 (by decide) (by decide) (by decide) (by decide) (by decide)]; exact h12, hb⟩, ⟨by rw [xu_row, if_pos rfl], by omega, fun k hk => ?_⟩, h3, T, h4, by rw [hx 0 (by decide) (by decide) (by decide) (by decide) (by decide)]; exact h5, h6.eq (fun k _ i _ => by rw [hx _ (by omega) (by omega) (by omega) (by omega) (by omega)]) (fun k _ j _ _ => hx _ (by omega) (by omega) (by omega) (by omega) (by omega)) (hx 1 (by decide) (by decide) (by decide) (by decide) (by decide))⟩
  have e9 : xu (xu (xu (xu (xu V 9 nc (nI x)) 10 nc (nI y)) 11 nc f) 12 nc g) 6 6 (nI (nc + 1)) 9 k = if k = nc then nI x else V 9 k := by
    rw [xu_ne _ _ _ (show (9 : Nat) ≠ 6 by decide), xu_ne _ _ _ (show (9 : Nat) ≠ 12 by decide), xu_ne _ _ _ (show (9 : Nat) ≠ 11 by decide), xu_ne _ _ _ (show (9 : Nat) ≠ 10 by decide), xu_row]
  have e10 : xu (xu (xu (xu (xu V 9 nc (nI x)) 10 nc (nI y)) 11 nc f) 12 nc g) 6 6 (nI (nc + 1)) 10 k = if k = nc then nI y else V 10 k := by
    rw [xu_ne _ _ _ (show (10 : Nat) ≠ 6 by decide), xu_ne _ _ _ (show (10 : Nat) ≠ 12 by decide), xu_ne _ _ _ (show (10 : Nat) ≠ 11 by decide), xu_row, xu_ne _ _ _ (show (10 : Nat) ≠ 9 by decide)]
  have e12 : xu (xu (xu (xu (xu V 9 nc (nI x)) 10 nc (nI y)) 11 nc f) 12 nc g) 6 6 (nI (nc + 1)) 12 k = if k = nc then g else V 12 k := by
    rw [xu_ne _ _ _ (show (12 : Nat) ≠ 6 by decide), xu_row, xu_ne _ _ _ (show (12 : Nat) ≠ 11 by decide), xu_ne _ _ _ (show (12 : Nat) ≠ 10 by decide), xu_ne _ _ _ (show (12 : Nat) ≠ 9 by decide)]
  rw [e9, e10, e12]
  by_cases e : k = nc
  · rw [if_pos e, if_pos e, if_pos e]
    exact ⟨⟨x, hx8, rfl⟩, ⟨y, hy8, rfl⟩, hg⟩
  · rw [if_neg e, if_neg e, if_neg e]
    exact h23 k (by omega)
/-- a bundle more -/
theorem INV.send (h : INV t nb nc od S V) (ht : t ≤ 100000) (h40 : nb < 40) {n g P c d : Nat} (hn : n < 8) (hg : g < 8) (hc : 1 ≤ c ∧ c ≤ 64) (hd : 1 ≤ d ∧ d ≤ 10000) (hP : P ≤ nb) (p0 : Int32) (hroom : cRoomB V od n p0 nb = true) {V2 : xV}
    (q3 : ∀ j, j < 20 + 4 * nb → j ≠ 4 → j ≠ 5 → V2 j = cRoomV V od n p0 nb j) (q4 : V2 4 2 = nI (nb + 1)) (q5 : V2 5 2 = nI (nb + 1))
    (qb : V2 (20 + 4 * nb) = upd (upd (upd (upd (upd (upd (upd (upd (upd (fun _ => 0) 0 (nI nb)) 1 (nI g)) 2 p0) 3 (V 0 0 + nI d)) 7 (-1)) 8 (-1)) 9 0) 10 (-1)) 7 (nI n))
    (a1 : V2 (20 + 4 * nb + 1) = upd (fun _ => 0) n (nI c)) (a2 : V2 (20 + 4 * nb + 2) = upd (fun _ => 0) n 0) (a3 : V2 (20 + 4 * nb + 3) = (fun _ => 0)) :
    INV (t + 1) (nb + 1) nc (insOd od P nb) (fun k => if k = nb then c else S k) V2 ∧ ∀ i, i < 20 → i ≠ 2 → i ≠ 4 → i ≠ 5 → V2 i = V i := by
  obtain ⟨⟨h1, h12, hb⟩, ⟨h2, h22, h23⟩, h3, T, h4, h5, h6⟩ := h
  obtain ⟨r1, r2, r3⟩ := h6.room (pm_lt h3) hb hn p0
  obtain ⟨p, p8, pp, pc⟩ := r3 hroom
  have lo : ∀ i, i < 20 → i ≠ 2 → i ≠ 4 → i ≠ 5 → V2 i = V i := fun i z1 z2 z4 z5 => by
    rw [q3 i (by omega) z4 z5, cRoomV_o _ _ _ _ _ z2 (Or.inl z1)]
  have lo2 : ∀ k, k < nb → ∀ j, j < 4 → V2 (20 + 4 * k + j) = cRoomV V od n p0 nb (20 + 4 * k + j) := fun k hk j hj => q3 _ (by omega) (by omega) (by omega)
  have b0 : V2 (20 + 4 * nb) 0 = nI nb ∧ V2 (20 + 4 * nb) 1 = nI g ∧ V2 (20 + 4 * nb) 3 = nI (T + d) ∧ V2 (20 + 4 * nb) 7 = nI n ∧ V2 (20 + 4 * nb) 8 = -1 ∧ V2 (20 + 4 * nb) 9 = 0 := by
    rw [qb, h5, nI_add]
    exact ⟨rfl, rfl, rfl, rfl, rfl, rfl⟩
  obtain ⟨b0, b1, b3, b7, b8, b9⟩ := b0
  refine ⟨⟨⟨q4, q5, by omega⟩, ⟨by rw [lo 6 (by decide) (by decide) (by decide) (by decide)]; exact h2, h22, h23.eq (lo 9 (by decide) (by decide) (by decide) (by decide)) (lo 10 (by decide) (by decide) (by decide) (by decide)) (lo 12 (by decide) (by decide) (by decide) (by decide))⟩, insOd_perm hP h3, T, by omega, by rw [lo 0 (by decide) (by decide) (by decide) (by decide)]; exact h5, fun k hk => ?_, fun m hm => ?_⟩, lo⟩
  · by_cases e : k = nb
    · subst e
      show BK _ _ _ (if k = k then c else S k) _ _
      rw [if_pos rfl]
      have z8 : sum8 (fun _ => 0) = 0 := rfl
      have sc := sum8_set (fun _ => 0) hn c
      refine ⟨g, T + d, fun j => if j = n then c else 0, fun _ => 0, fun _ => false, ⟨hg, by omega, by omega⟩, ⟨b0, b1, b3⟩, fun j hj => ?_, fun j hj => ⟨?_, Nat.zero_le _⟩, fun j hj => ⟨?_, fun z => absurd (show false = true from z) (by decide)⟩, ⟨by omega, hc.2⟩, Or.inl ⟨b8, b9, fun _ _ => rfl⟩, Or.inr ⟨n, hn, b7, ?_, by omega⟩, fun z => absurd z (by omega)⟩
      · rw [a1]
        show (if j = n then nI c else 0) = nI (if j = n then c else 0)
        by_cases e : j = n
        · rw [if_pos e, if_pos e]
        · rw [if_neg e, if_neg e]; rfl
      · rw [a2]
        show (if j = n then 0 else 0) = nI 0
        split <;> rfl
      · rw [a3]; exact b2i_false.symm
      · show 0 < (if n = n then c else 0)
        rw [if_pos rfl]; omega
    · show BK _ _ _ (if k = nb then c else S k) _ _
      rw [if_neg e]
      exact ((r1.1 k (by omega)).eq (fun i _ => congrFun (lo2 k (by omega) 0 (by omega)) i) (lo2 k (by omega) 1 (by omega)) (lo2 k (by omega) 2 (by omega)) (lo2 k (by omega) 3 (by omega))).mono (by omega) (by omega)
  · obtain ⟨p', q1, q2, q3', q4'⟩ := r1.2 m hm
    have e1 : V2 1 m = cRoomV V od n p0 nb 1 m := by rw [q3 1 (by omega) (by decide) (by decide)]
    have le : cntP (cHas V2 m) nb ≤ cntP (cHas (cRoomV V od n p0 nb) m) nb := cnt_le nb fun y hy q => by
      rw [cHas_iff] at *
      rw [lo2 y hy 1 (by omega)] at q
      exact q
    refine ⟨p', q1, q2, by rw [e1]; exact q3', ?_⟩
    by_cases e : m = n
    · subst e
      have pe : p = p' := (nI_eq (by omega) (by omega)).mp (pp.symm.trans q3')
      have z : cntP (cHas V2 m) (nb + 1) ≤ cntP (cHas V2 m) nb + 1 := by
        by_cases q : cHas V2 m nb = true
        · rw [cntP_t q]; exact Nat.le_refl _
        · rw [cntP_f q]; exact Nat.le_succ _
      omega
    · rw [cntP_f (P := cHas V2 m) (fun q => by
        rw [cHas_iff, a1] at q
        have q2 : upd (fun _ => 0) n (nI c) m = 0 := if_neg e
        rw [q2] at q
        exact absurd q (by decide))]
      omega
end IV
