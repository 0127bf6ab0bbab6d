/-! A MEETING keeps the invariant -/
def KN (a b nb : Nat) (V : xV) : Prop := ∀ k, k < nb → V (20 + 4 * k + 3) a = V (20 + 4 * k + 3) b
/-- nothing of it to be delivered between a and b -/
def UN (a b : Nat) (V : xV) (k : Nat) : Prop := ¬ (0 < V (20 + 4 * k + 1) a ∧ V (20 + 4 * k) 1 = nI b) ∧ ¬ (0 < V (20 + 4 * k + 1) b ∧ V (20 + 4 * k) 1 = nI a)
def GV (a b : Nat) (V : xV) (k : Nat) : Prop := (V (20 + 4 * k) 10 = nI a ∨ V (20 + 4 * k) 10 = nI b) → ¬ V (20 + 4 * k) 1 = nI a ∧ ¬ V (20 + 4 * k) 1 = nI b
def GZ (a b : Nat) (V : xV) (k : Nat) : Prop := (V (20 + 4 * k) 10 = nI a → ¬ 0 < V (20 + 4 * k + 1) b) ∧ (V (20 + 4 * k) 10 = nI b → ¬ 0 < V (20 + 4 * k + 1) a)
theorem UN.cd {a b k : Nat} {V W : xV} (h : UN a b V k) (c : CD V W) : UN a b W k := by
  unfold UN at *
  rw [c.2 k 1 (by decide)]
  exact ⟨fun z => h.1 ⟨c.1 k a z.1, z.2⟩, fun z => h.2 ⟨c.1 k b z.1, z.2⟩⟩
section MT
variable {M E T nb a b : Nat} {S : Nat → Nat} {V : xV}
theorem talk (h : INB M E T nb S V) (hT : T < 2 ^ 31) (ha : a < 8) (hb8 : b < 8) (k : Nat) (hk : k ≤ nb) : INB M E T nb S (cTalk V a b k) ∧ CD V (cTalk V a b k) ∧ ∀ j, j < k → cTalk V a b k (20 + 4 * j + 3) a = cTalk V a b k (20 + 4 * j + 3) b := by
  induction k with
  | zero => exact ⟨h, CD.refl V, fun j hj => absurd hj (Nat.not_lt_zero j)⟩
  | succ k ih =>
    obtain ⟨i1, i2, i3⟩ := ih (by omega)
    by_cases c : cTalk V a b k (20 + 4 * k + 3) a = 0 ∧ cTalk V a b k (20 + 4 * k + 3) b = 0
    · rw [show cTalk V a b (k + 1) = cTalk V a b k from if_pos c]
      refine ⟨i1, i2, fun j hj => ?_⟩
      by_cases e : j = k
      · rw [e, c.1, c.2]
      · exact i3 j (by omega)
    · rw [show cTalk V a b (k + 1) = bLearn (bLearn (cTalk V a b k) (20 + 4 * k) a) (20 + 4 * k) b from if_neg c]
      have hd : cTalk V a b k (20 + 4 * k) 8 ≠ -1 := by
        by_cases q : cTalk V a b k (20 + 4 * k + 3) a = 0
        · exact (i1.1 k (by omega)).kn hT hb8 (fun z => c ⟨q, z⟩)
        · exact (i1.1 k (by omega)).kn hT ha q
      refine ⟨(i1.learn (by omega) ha hd).learn (by omega) hb8 (by rw [bLearn_f _ _ _ (by decide)]; exact hd), i2.trans ((CD.learn _ _ _).trans (CD.learn _ _ _)), fun j hj => ?_⟩
      by_cases e : j = k
      · rw [e]
        simp [bLearn_3]
      · rw [bLearn_z _ k b (fun j' hj' => by omega), bLearn_z _ k a (fun j' hj' => by omega)]
        exact i3 j (by omega)
theorem find_z (V : xV) (a b k : Nat) {i : Nat} (h : i < 20 ∨ i % 4 ≠ 0) : cFind V a b k i = V i := by
  induction k with
  | zero => rfl
  | succ k ih =>
    by_cases c1 : cCan (xu (cFind V a b k) (20 + 4 * k) 10 (-1)) (20 + 4 * k) a b
    · rw [cFind_1 c1, xu_ne _ _ _ (by omega), xu_ne _ _ _ (by omega), ih]
    · by_cases c2 : cCan (xu (cFind V a b k) (20 + 4 * k) 10 (-1)) (20 + 4 * k) b a
      · rw [cFind_2 c1 c2, xu_ne _ _ _ (by omega), xu_ne _ _ _ (by omega), ih]
      · rw [cFind_3 c1 c2, xu_ne _ _ _ (by omega), ih]
theorem find_g (V : xV) (ha : a < 8) (hb8 : b < 8) (hab : a ≠ b) (k : Nat) : ∀ j, j < k → (cFind V a b k (20 + 4 * j) 10 = nI a → ¬ V (20 + 4 * j) 1 = nI a ∧ ¬ V (20 + 4 * j) 1 = nI b ∧ ¬ 0 < V (20 + 4 * j + 1) b) ∧ (cFind V a b k (20 + 4 * j) 10 = nI b → ¬ V (20 + 4 * j) 1 = nI a ∧ ¬ V (20 + 4 * j) 1 = nI b ∧ ¬ 0 < V (20 + 4 * j + 1) a) := by
  induction k with
  | zero => exact fun j hj => absurd hj (Nat.not_lt_zero j)
  | succ k ih =>
    intro j hj
    have can : ∀ f t, cCan (xu (cFind V a b k) (20 + 4 * k) 10 (-1)) (20 + 4 * k) f t → ¬ V (20 + 4 * k) 1 = nI f ∧ ¬ V (20 + 4 * k) 1 = nI t ∧ ¬ 0 < V (20 + 4 * k + 1) t := by
      intro f t z
      obtain ⟨z1, z2, z3, z4⟩ := (cCan_x _ _ _ _ _).mp z
      rw [cFind_f _ _ _ _ _ (by decide)] at z1 z2
      rw [find_z _ _ _ _ (by omega)] at z4
      exact ⟨z1, z2, z4⟩
    have m1 : ∀ n, n < 8 → (-1 : Int32) ≠ nI n := fun n hn => nI_m1 (by omega)
    by_cases c1 : cCan (xu (cFind V a b k) (20 + 4 * k) 10 (-1)) (20 + 4 * k) a b
    · rw [cFind_1 c1]
      by_cases e : j = k
      · rw [e, xu_row, if_pos rfl]
        exact ⟨fun _ => can a b c1, fun z => absurd z (nI_ab ha hb8 hab)⟩
      · rw [xu_ne _ _ _ (by omega), xu_ne _ _ _ (by omega)]
        exact ih j (by omega)
    · by_cases c2 : cCan (xu (cFind V a b k) (20 + 4 * k) 10 (-1)) (20 + 4 * k) b a
      · rw [cFind_2 c1 c2]
        by_cases e : j = k
        · rw [e, xu_row, if_pos rfl]
          exact ⟨fun z => absurd z (nI_ab hb8 ha (Ne.symm hab)), fun _ => ⟨(can b a c2).2.1, (can b a c2).1, (can b a c2).2.2⟩⟩
        · rw [xu_ne _ _ _ (by omega), xu_ne _ _ _ (by omega)]
          exact ih j (by omega)
      · rw [cFind_3 c1 c2]
        by_cases e : j = k
        · rw [e, xu_row, if_pos rfl]
          exact ⟨fun z => absurd z (m1 a ha), fun z => absurd z (m1 b hb8)⟩
        · rw [xu_ne _ _ _ (by omega)]
          exact ih j (by omega)
/-- deliveries -/
theorem dl_spec {od : Nat → Nat} (hod : ∀ j, j < nb → od j < nb) (ha : a < 8) (hb8 : b < 8) (hT : T < 2 ^ 31) {mo : Nat} (hmo : mo ≤ 20) (f : Nat) : ∀ (i m : Nat) (W : xV), nb < i + f → i ≤ nb → m ≤ mo → INB M E T nb S W → W 0 0 = nI T → KN a b nb W → (∀ j, j < i → UN a b W (od j)) →
    ∃ m', (cDl od a b nb (nI mo) f i (nI m) W).1 = nI m' ∧ m ≤ m' ∧ m' ≤ mo ∧ INB M E T nb S (cDl od a b nb (nI mo) f i (nI m) W).2 ∧ KN a b nb (cDl od a b nb (nI mo) f i (nI m) W).2 ∧ CD W (cDl od a b nb (nI mo) f i (nI m) W).2 ∧ (m' < mo → ∀ j, j < nb → UN a b (cDl od a b nb (nI mo) f i (nI m) W).2 (od j)) := by
  induction f with
  | zero => intro i m W h1 h2; exact absurd h1 (by omega)
  | succ f ih =>
    intro i m W hf hi hm hD h0 hK hU
    unfold cDl
    by_cases c : nb ≤ i
    · rw [if_pos c]
      exact ⟨m, rfl, Nat.le_refl _, hm, hD, hK, CD.refl W, fun _ j hj => hU j (by omega)⟩
    · rw [if_neg c]
      by_cases c2 : nI mo ≤ nI m
      · rw [if_pos c2]
        rw [nI_leI (by omega) (by omega)] at c2
        exact ⟨m, rfl, Nat.le_refl _, hm, hD, hK, CD.refl W, fun z => absurd z (by omega)⟩
      · rw [if_neg c2]
        rw [nI_leI (by omega) (by omega)] at c2
        have hk := hod i (by omega)
        have go : ∀ n d, n < 8 → d < 8 → ((n = a ∧ d = b) ∨ (n = b ∧ d = a)) → 0 < W (20 + 4 * od i + 1) n →
            ∃ m', (cDl od a b nb (nI mo) f (i + 1) (nI m + 1) (bDeliver W (20 + 4 * od i) n d (W 0 0))).1 = nI m' ∧ m ≤ m' ∧ m' ≤ mo ∧ INB M E T nb S (cDl od a b nb (nI mo) f (i + 1) (nI m + 1) (bDeliver W (20 + 4 * od i) n d (W 0 0))).2 ∧ KN a b nb (cDl od a b nb (nI mo) f (i + 1) (nI m + 1) (bDeliver W (20 + 4 * od i) n d (W 0 0))).2 ∧ CD W (cDl od a b nb (nI mo) f (i + 1) (nI m + 1) (bDeliver W (20 + 4 * od i) n d (W 0 0))).2 ∧ (m' < mo → ∀ j, j < nb → UN a b (cDl od a b nb (nI mo) f (i + 1) (nI m + 1) (bDeliver W (20 + 4 * od i) n d (W 0 0))).2 (od j)) := by
          intro n d hn hd hnd hp
          rw [h0, show nI m + 1 = nI (m + 1) from nI_add m 1]
          have cd := CD.deliver W (od i) n d (nI T)
          obtain ⟨m', e1, e2, e3, e4, e5, e6, e7⟩ := ih (i + 1) (m + 1) (bDeliver W (20 + 4 * od i) n d (nI T)) (by omega) (by omega) (by omega) (hD.deliver hT hk hn hd hp) (by rw [bDeliver_z W (od i) n d _ (fun j hj => by omega)]; exact h0) (fun k hk' => by
            by_cases e : k = od i
            · rw [e]
              obtain ⟨q1, q2⟩ := bDeliver_3 W (od i) n d (nI T)
              rcases hnd with ⟨r1, r2⟩ | ⟨r1, r2⟩
              · rw [r1, r2] at q1 q2
                rw [r1, r2, q1, q2]
              · rw [r1, r2] at q1 q2
                rw [r1, r2, q1, q2]
            · rw [bDeliver_z W (od i) n d _ (fun j hj => by omega)]
              exact hK k hk') (fun j hj => by
            by_cases e : j = i
            · rw [e]
              unfold UN
              rw [bDeliver_1, bDeliver_1]
              rcases hnd with ⟨r1, r2⟩ | ⟨r1, r2⟩
              · subst r1 r2
                exact ⟨fun z => by simp at z, fun z => by simp at z⟩
              · subst r1 r2
                exact ⟨fun z => by simp at z, fun z => by simp at z⟩
            · exact (hU j (by omega)).cd cd)
          exact ⟨m', e1, by omega, e3, e4, e5, cd.trans e6, e7⟩
        by_cases c3 : 0 < W (20 + 4 * od i + 1) a ∧ W (20 + 4 * od i) 1 = nI b
        · rw [if_pos c3]
          exact go a b ha hb8 (Or.inl ⟨rfl, rfl⟩) c3.1
        · rw [if_neg c3]
          by_cases c4 : 0 < W (20 + 4 * od i + 1) b ∧ W (20 + 4 * od i) 1 = nI a
          · rw [if_pos c4]
            exact go b a hb8 ha (Or.inr ⟨rfl, rfl⟩) c4.1
          · rw [if_neg c4]
            refine ih (i + 1) m W (by omega) (by omega) hm hD h0 hK (fun j hj => ?_)
            by_cases e : j = i
            · rw [e]; exact ⟨c3, c4⟩
            · exact hU j (by omega)
theorem dl_none {od : Nat → Nat} {W : xV} (h : ∀ j, j < nb → UN a b W (od j)) (most : Int32) (f : Nat) : ∀ (i : Nat) (made : Int32), cDl od a b nb most f i made W = (made, W) := by
  induction f with
  | zero => exact fun _ _ => rfl
  | succ f ih =>
    intro i made
    unfold cDl
    by_cases c : nb ≤ i
    · rw [if_pos c]
    · rw [if_neg c]
      by_cases c2 : most ≤ made
      · rw [if_pos c2]
      · rw [if_neg c2, if_neg (h i (by omega)).1, if_neg (h i (by omega)).2]
        exact ih _ _
/-- one spray -/
theorem spr {od : Nat → Nat} (hod : ∀ j, j < nb → od j < nb) (hb : nb ≤ 40) {W : xV} {k g t : Nat} (h : INB M E T nb S W) (hk : k < nb) (hg : g < 8) (ht : t < 8) (hne : g ≠ t) (hkn : W (20 + 4 * k + 3) t = W (20 + 4 * k + 3) g) (hz : ¬ 0 < W (20 + 4 * k + 1) t) :
    (cSpB W od (20 + 4 * k) g t nb = true → INB (M + 1) E T nb S (cSpV W od (20 + 4 * k) g t nb)) ∧ (¬ cSpB W od (20 + 4 * k) g t nb = true → INB M E T nb S (cSpV W od (20 + 4 * k) g t nb)) ∧ (∀ j n, j ≠ k → 0 < cSpV W od (20 + 4 * k) g t nb (20 + 4 * j + 1) n → 0 < W (20 + 4 * j + 1) n) := by
  unfold cSpB cSpV
  by_cases c : 0 < W (20 + 4 * k + 1) g
  · rw [if_pos c, if_pos c]
    obtain ⟨r1, r2, r3⟩ := h.room hod hb ht (W (20 + 4 * k) 2)
    by_cases d : cRoomB W od t (W (20 + 4 * k) 2) nb = true
    · rw [if_pos d]
      obtain ⟨p, p1, p2, p3⟩ := r3 d
      refine ⟨fun _ => r1.halve hk hg ht hne (by rw [cRoomV_g _ _ _ _ _ _ _ hne]; exact c) (fun z => hz (r2.1 k t z)) (by rw [cRoomV_3]; exact hkn) p1 p2 p3, fun z => absurd d z, fun j n e q => ?_⟩
      rw [bHalve_o _ _ _ _ (by omega) (by omega)] at q
      exact r2.1 j n q
    · rw [if_neg d]
      refine ⟨fun z => absurd z d, fun _ => r1.row2 (Or.inr rfl) _ _, fun j n e q => ?_⟩
      rw [xu_ne _ _ _ (by omega)] at q
      exact r2.1 j n q
  · rw [if_neg c, if_neg c]
    exact ⟨fun z => absurd z (by decide), fun _ => h, fun j n _ q => q⟩
theorem sl_spec {UP : Prop} {od : Nat → Nat} (hod : ∀ j, j < nb → od j < nb) (hinj : ∀ i j, i < nb → j < nb → od i = od j → i = j) (hb : nb ≤ 40) (ha : a < 8) (hb8 : b < 8) (hab : a ≠ b) {mo : Nat} (hmo : mo ≤ 20) (f : Nat) : ∀ (i m : Nat) (W : xV), nb < i + f → i ≤ nb → m ≤ mo → INB (M + m) E T nb S W → KN a b nb W → (∀ k, k < nb → GV a b W k) → (∀ j, i ≤ j → j < nb → GZ a b W (od j)) → (UP → ∀ k, k < nb → UN a b W k) →
    ∃ m', (cSl od a b nb (nI mo) f i (nI m) W).1 = nI m' ∧ m' ≤ mo ∧ INB (M + m') E T nb S (cSl od a b nb (nI mo) f i (nI m) W).2 ∧ KN a b nb (cSl od a b nb (nI mo) f i (nI m) W).2 ∧ (UP → ∀ k, k < nb → UN a b (cSl od a b nb (nI mo) f i (nI m) W).2 k) := by
  induction f with
  | zero => intro i m W h1 h2; exact absurd h1 (by omega)
  | succ f ih =>
    intro i m W hf hi hm hI hK hV hZ hU
    unfold cSl
    by_cases c : nb ≤ i
    · rw [if_pos c]
      exact ⟨m, rfl, hm, hI, hK, hU⟩
    · rw [if_neg c]
      by_cases c2 : nI mo ≤ nI m
      · rw [if_pos c2]
        exact ⟨m, rfl, hm, hI, hK, hU⟩
      · rw [if_neg c2]
        rw [nI_leI (by omega) (by omega)] at c2
        have hk := hod i (by omega)
        have go : ∀ g t, g < 8 → t < 8 → g ≠ t → ((g = a ∧ t = b) ∨ (g = b ∧ t = a)) → W (20 + 4 * od i) 10 = nI g →
            ∃ m', (cSl od a b nb (nI mo) f (i + 1) (if cSpB W od (20 + 4 * od i) g t nb = true then nI m + 1 else nI m) (cSpV W od (20 + 4 * od i) g t nb)).1 = nI m' ∧ m' ≤ mo ∧ INB (M + m') E T nb S (cSl od a b nb (nI mo) f (i + 1) (if cSpB W od (20 + 4 * od i) g t nb = true then nI m + 1 else nI m) (cSpV W od (20 + 4 * od i) g t nb)).2 ∧ KN a b nb (cSl od a b nb (nI mo) f (i + 1) (if cSpB W od (20 + 4 * od i) g t nb = true then nI m + 1 else nI m) (cSpV W od (20 + 4 * od i) g t nb)).2 ∧ (UP → ∀ k, k < nb → UN a b (cSl od a b nb (nI mo) f (i + 1) (if cSpB W od (20 + 4 * od i) g t nb = true then nI m + 1 else nI m) (cSpV W od (20 + 4 * od i) g t nb)).2 k) := by
          intro g t hg ht hne hgt h10
          have kk := hK (od i) hk
          have kn : W (20 + 4 * od i + 3) t = W (20 + 4 * od i + 3) g := by
            rcases hgt with ⟨r1, r2⟩ | ⟨r1, r2⟩
            · rw [r1, r2]; exact kk.symm
            · rw [r1, r2]; exact kk
          have z0 := hZ i (Nat.le_refl i) (by omega)
          have hz : ¬ 0 < W (20 + 4 * od i + 1) t := by
            rcases hgt with ⟨r1, r2⟩ | ⟨r1, r2⟩
            · rw [r2]; exact z0.1 (by rw [← r1]; exact h10)
            · rw [r2]; exact z0.2 (by rw [← r1]; exact h10)
          obtain ⟨s1, s2, s3⟩ := spr hod hb hI hk hg ht hne kn hz
          have f0 : ∀ k, cSpV W od (20 + 4 * od i) g t nb (20 + 4 * k) = W (20 + 4 * k) := fun k => cSpV_o _ _ _ _ _ _ (by omega) (by omega) (by omega)
          have nK : KN a b nb (cSpV W od (20 + 4 * od i) g t nb) := fun k hk' => by rw [cSpV_3]; exact hK k hk'
          have nV : ∀ k, k < nb → GV a b (cSpV W od (20 + 4 * od i) g t nb) k := fun k hk' => by
            unfold GV
            rw [f0]; exact hV k hk'
          have nZ : ∀ j, i + 1 ≤ j → j < nb → GZ a b (cSpV W od (20 + 4 * od i) g t nb) (od j) := fun j hj1 hj2 => by
            have ne : od j ≠ od i := fun z => by have := hinj j i hj2 (by omega) z; omega
            have q := hZ j (by omega) hj2
            unfold GZ at q ⊢
            rw [f0]
            exact ⟨fun z y => q.1 z (s3 _ _ ne y), fun z y => q.2 z (s3 _ _ ne y)⟩
          have nU : UP → ∀ k, k < nb → UN a b (cSpV W od (20 + 4 * od i) g t nb) k := fun up k hk' => by
            unfold UN
            rw [f0]
            by_cases e : k = od i
            · rw [e]
              have v := hV (od i) hk (by rcases hgt with ⟨r1, -⟩ | ⟨r1, -⟩ <;> rw [h10, r1] <;> simp)
              exact ⟨fun z => v.2 z.2, fun z => v.1 z.2⟩
            · have q := hU up k hk'
              exact ⟨fun z => q.1 ⟨s3 _ _ e z.1, z.2⟩, fun z => q.2 ⟨s3 _ _ e z.1, z.2⟩⟩
          by_cases d : cSpB W od (20 + 4 * od i) g t nb = true
          · rw [if_pos d, show nI m + 1 = nI (m + 1) from nI_add m 1]
            exact ih (i + 1) (m + 1) _ (by omega) (by omega) (by omega) (s1 d) nK nV nZ nU
          · rw [if_neg d]
            exact ih (i + 1) m _ (by omega) (by omega) hm (s2 d) nK nV nZ nU
        by_cases c3 : W (20 + 4 * od i) 10 = nI a
        · rw [if_pos c3]
          exact go a b ha hb8 hab (Or.inl ⟨rfl, rfl⟩) c3
        · rw [if_neg c3]
          by_cases c4 : W (20 + 4 * od i) 10 = nI b
          · rw [if_pos c4]
            exact go b a hb8 ha (Ne.symm hab) (Or.inr ⟨rfl, rfl⟩) c4
          · rw [if_neg c4]
            exact ih (i + 1) m W (by omega) (by omega) hm hI hK hV (fun j hj1 hj2 => hZ j (by omega) hj2) hU
theorem sl_o (od : Nat → Nat) (a b nb : Nat) (most : Int32) (f i : Nat) (made : Int32) (W : xV) {j : Nat} (h : j < 20) (h2 : j ≠ 2) (h3 : j ≠ 3) : (cSl od a b nb most f i made W).2 j = W j := by
  induction f generalizing i made W with
  | zero => rfl
  | succ f ih =>
    unfold cSl
    split
    · rfl
    · split
      · rfl
      · split
        · rw [ih, cSpV_o _ _ _ _ _ _ h2 h3 (Or.inl h)]
        · split
          · rw [ih, cSpV_o _ _ _ _ _ _ h2 h3 (Or.inl h)]
          · rw [ih]
/-- custody -/
theorem near_spec (W : xV) (k f t nc : Nat) : ∃ X : xV, (∀ i, i ≠ 13 → i ≠ 14 → X i = W i) ∧ (cNear W k f t nc = X ∨ cNear W k f t nc = xu X (20 + 4 * k) 7 (nI t)) := by
  refine ⟨pFin (pFin W t (W (20 + 4 * k) 1).toNatClampNeg nc (W 0 0)) f (W (20 + 4 * k) 1).toNatClampNeg nc (W 0 0), fun i h1 h2 => ?_, ?_⟩
  · rw [pFin_o _ _ _ _ _ h1 h2, pFin_o _ _ _ _ _ h1 h2]
  · show (if _ then _ else _) = _ ∨ (if _ then _ else _) = _
    split
    · exact Or.inl rfl
    · exact Or.inr rfl
theorem INB.sc (h : INB M E T nb S V) {X : xV} (e : ∀ i, i ≠ 13 → i ≠ 14 → X i = V i) : INB M E T nb S X :=
  h.eq (fun k _ i _ => by rw [e _ (by omega) (by omega)]) (fun k _ j _ _ => e _ (by omega) (by omega)) (e 1 (by decide) (by decide))
theorem INB.near (h : INB M E T nb S V) {k f t nc : Nat} (hk : k < nb) (ht : t < 8) (hp : 0 < V (20 + 4 * k + 1) t) : INB M E T nb S (cNear V k f t nc) := by
  obtain ⟨X, e, q | q⟩ := near_spec V k f t nc
  · rw [q]; exact h.sc e
  · rw [q]
    exact (h.sc e).keep hk ht (by rw [e _ (by omega) (by omega)]; exact hp)
theorem mv_z (V : xV) (a b nc k : Nat) {i : Nat} (h : i < 20 ∨ i % 4 ≠ 0) (h13 : i ≠ 13) (h14 : i ≠ 14) : cMv V a b nc k i = V i := by
  induction k with
  | zero => rfl
  | succ k ih =>
    unfold cMv
    split
    · exact ih
    · split
      · exact ih
      · split
        · rw [cNear_o _ _ _ _ _ (by omega) h13 h14]; exact ih
        · split
          · rw [cNear_o _ _ _ _ _ (by omega) h13 h14]; exact ih
          · exact ih
theorem INB.mv (h : INB M E T nb S V) (ha : a < 8) (hb8 : b < 8) (nc k : Nat) (hk : k ≤ nb) : INB M E T nb S (cMv V a b nc k) := by
  induction k with
  | zero => exact h
  | succ k ih =>
    have ih := ih (by omega)
    unfold cMv
    by_cases c1 : ¬ 0 < cMv V a b nc k (20 + 4 * k + 1) a
    · rw [if_pos c1]; exact ih
    · rw [if_neg c1]
      by_cases c2 : ¬ 0 < cMv V a b nc k (20 + 4 * k + 1) b
      · rw [if_pos c2]; exact ih
      · rw [if_neg c2]
        by_cases c3 : cMv V a b nc k (20 + 4 * k) 7 = nI a
        · rw [if_pos c3]; exact ih.near (by omega) hb8 (Decidable.byContradiction c2)
        · rw [if_neg c3]
          by_cases c4 : cMv V a b nc k (20 + 4 * k) 7 = nI b
          · rw [if_pos c4]; exact ih.near (by omega) ha (Decidable.byContradiction c1)
          · rw [if_neg c4]; exact ih
end MT
