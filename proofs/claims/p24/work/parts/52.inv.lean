/-! THE INVARIANT of the class's world, alone -/
def sum8 (c : Nat → Nat) : Nat := c 0 + c 1 + c 2 + c 3 + c 4 + c 5 + c 6 + c 7
theorem sum8_le {c d : Nat → Nat} (h : ∀ n, n < 8 → c n ≤ d n) : sum8 c ≤ sum8 d := by
  have h0 := h 0 (by omega)
  have h1 := h 1 (by omega)
  have h2 := h 2 (by omega)
  have h3 := h 3 (by omega)
  have h4 := h 4 (by omega)
  have h5 := h 5 (by omega)
  have h6 := h 6 (by omega)
  have h7 := h 7 (by omega)
  unfold sum8
  omega
theorem lt8 {n : Nat} (h : n < 8) : n = 0 ∨ n = 1 ∨ n = 2 ∨ n = 3 ∨ n = 4 ∨ n = 5 ∨ n = 6 ∨ n = 7 := by omega
theorem sum8_set (c : Nat → Nat) {n : Nat} (hn : n < 8) (x : Nat) : sum8 (fun j => if j = n then x else c j) + c n = sum8 c + x := by
  rcases lt8 hn with rfl | rfl | rfl | rfl | rfl | rfl | rfl | rfl <;> simp [sum8] <;> omega
theorem sum8_at (c : Nat → Nat) {n : Nat} (hn : n < 8) : c n ≤ sum8 c := by
  rcases lt8 hn with rfl | rfl | rfl | rfl | rfl | rfl | rfl | rfl <;> unfold sum8 <;> omega
theorem bPut_1 (V : xV) (b n : Nat) (c h : Int32) (j : Nat) : bPut V b n c h (b + 1) j = if j = n then c else V (b + 1) j := by
  unfold bPut
  rw [xu_ne _ _ _ (by omega), xu_row]
theorem bPut_2 (V : xV) (b n : Nat) (c h : Int32) (j : Nat) : bPut V b n c h (b + 2) j = if j = n then h else V (b + 2) j := by
  unfold bPut
  rw [xu_row, xu_ne _ _ _ (show b + 2 ≠ b + 1 by omega)]
/-- of one bundle: M bounds hops, E its end, T is the clock, s bounds the copies -/
def BK (M E T s : Nat) (V : xV) (k : Nat) : Prop :=
  ∃ (g e : Nat) (c h : Nat → Nat) (w : Nat → Bool), (g < 8 ∧ 1 ≤ e ∧ e ≤ E) ∧ (V (20 + 4 * k) 0 = nI k ∧ V (20 + 4 * k) 1 = nI g ∧ V (20 + 4 * k) 3 = nI e) ∧
    (∀ n, n < 8 → V (20 + 4 * k + 1) n = nI (c n)) ∧ (∀ n, n < 8 → V (20 + 4 * k + 2) n = nI (h n) ∧ h n ≤ M) ∧ (∀ n, n < 8 → V (20 + 4 * k + 3) n = b2i (w n = true) ∧ (w n = true → c n = 0)) ∧ (sum8 c ≤ s ∧ s ≤ 64) ∧
    ((V (20 + 4 * k) 8 = -1 ∧ V (20 + 4 * k) 9 = 0 ∧ ∀ n, n < 8 → w n = false) ∨ (∃ d q, V (20 + 4 * k) 8 = nI d ∧ d ≤ T ∧ d < e ∧ V (20 + 4 * k) 9 = nI q ∧ 1 ≤ q ∧ q ≤ M + 1 ∧ ∃ n, n < 8 ∧ w n = true)) ∧
    ((V (20 + 4 * k) 7 = -1 ∧ (V (20 + 4 * k) 8 = -1 → e ≤ T)) ∨ (∃ n, n < 8 ∧ V (20 + 4 * k) 7 = nI n ∧ 0 < c n ∧ T < e)) ∧ (e ≤ T → ∀ n, n < 8 → c n = 0)
theorem BK.mono {M M' E E' T s : Nat} {V : xV} {k : Nat} (h : BK M E T s V k) (hM : M ≤ M') (hE : E ≤ E') : BK M' E' T s V k := by
  obtain ⟨g, e, c, h, w, ⟨a1, a2, a3⟩, hv, hc, hh, hw, hs, hD, hC⟩ := h
  refine ⟨g, e, c, h, w, ⟨a1, a2, by omega⟩, hv, hc, fun n hn => ⟨(hh n hn).1, Nat.le_trans (hh n hn).2 hM⟩, hw, hs, ?_, hC⟩
  rcases hD with z | ⟨d, q, z1, z2, z3, z4, z5, z6, z7⟩
  · exact Or.inl z
  · exact Or.inr ⟨d, q, z1, z2, z3, z4, z5, by omega, z7⟩
/-- what it rests on -/
theorem BK.eq {M E T s : Nat} {V W : xV} {k : Nat} (h : BK M E T s V k) (e0 : ∀ i, i ≠ 10 → W (20 + 4 * k) i = V (20 + 4 * k) i) (e1 : W (20 + 4 * k + 1) = V (20 + 4 * k + 1)) (e2 : W (20 + 4 * k + 2) = V (20 + 4 * k + 2)) (e3 : W (20 + 4 * k + 3) = V (20 + 4 * k + 3)) : BK M E T s W k := by
  unfold BK at *
  rw [e0 0 (by decide), e0 1 (by decide), e0 3 (by decide), e0 7 (by decide), e0 8 (by decide), e0 9 (by decide), e1, e2, e3]
  exact h
theorem BK.learn' {M E T s : Nat} {V W : xV} {k n : Nat} (h : BK M E T s V k) (hn : n < 8) (e0 : ∀ i, i ≠ 8 → i ≠ 9 → W (20 + 4 * k) i = V (20 + 4 * k) i) (e1 : W (20 + 4 * k + 1) = V (20 + 4 * k + 1)) (e2 : W (20 + 4 * k + 2) = V (20 + 4 * k + 2)) (e3 : W (20 + 4 * k + 3) = V (20 + 4 * k + 3))
    (hd : (V (20 + 4 * k) 8 ≠ -1 ∧ W (20 + 4 * k) 8 = V (20 + 4 * k) 8 ∧ W (20 + 4 * k) 9 = V (20 + 4 * k) 9) ∨ (W (20 + 4 * k) 8 = nI T ∧ T < 2 ^ 31 ∧ ∃ j, j < 8 ∧ 0 < V (20 + 4 * k + 1) j ∧ W (20 + 4 * k) 9 = V (20 + 4 * k + 2) j + 1)) : BK M E T s (bLearn W (20 + 4 * k) n) k := by
  obtain ⟨g, e, c, h, w, ⟨a1, a2, a3⟩, ⟨v0, v1, v3⟩, hc, hh, hw, hs, hD, hC, hO⟩ := h
  have hN : W (20 + 4 * k) 8 ≠ -1 := by
    rcases hd with ⟨d1, d2, d3⟩ | ⟨d1, d2, -⟩
    · rw [d2]; exact d1
    · rw [d1]; exact (nI_m1 d2).symm
  refine ⟨g, e, fun j => if j = n then 0 else c j, fun j => if j = n then 0 else h j, fun j => if j = n then true else w j, ⟨a1, a2, a3⟩, ⟨?_, ?_, ?_⟩, fun j hj => ?_, fun j hj => ?_, fun j hj => ?_, ⟨Nat.le_trans (sum8_le fun j hj => ?_) hs.1, hs.2⟩, Or.inr ?_, ?_, fun he j hj => ?_⟩
  · rw [bLearn_f _ _ _ (by decide), e0 0 (by decide) (by decide)]; exact v0
  · rw [bLearn_f _ _ _ (by decide), e0 1 (by decide) (by decide)]; exact v1
  · rw [bLearn_f _ _ _ (by decide), e0 3 (by decide) (by decide)]; exact v3
  · rw [bLearn_1, e1]
    show _ = nI (if j = n then 0 else c j)
    by_cases q : j = n
    · rw [if_pos q, if_pos q]; rfl
    · rw [if_neg q, if_neg q]; exact hc j hj
  · rw [bLearn_2, e2]
    show _ = nI (if j = n then 0 else h j) ∧ (if j = n then 0 else h j) ≤ M
    by_cases q : j = n
    · rw [if_pos q, if_pos q]; exact ⟨rfl, Nat.zero_le _⟩
    · rw [if_neg q, if_neg q]; exact hh j hj
  · rw [bLearn_3, e3]
    show _ = b2i ((if j = n then true else w j) = true) ∧ ((if j = n then true else w j) = true → (if j = n then 0 else c j) = 0)
    by_cases q : j = n
    · rw [if_pos q, if_pos q, if_pos q]; exact ⟨b2i_true.symm, fun _ => rfl⟩
    · rw [if_neg q, if_neg q, if_neg q]; exact hw j hj
  · show (if j = n then 0 else c j) ≤ c j
    split <;> omega
  · rw [bLearn_f _ _ _ (by decide), bLearn_f _ _ _ (by decide)]
    rcases hd with ⟨d1, d2, d3⟩ | ⟨d1, d2, j, j8, jp, d3⟩
    · rw [d2, d3]
      rcases hD with ⟨z, -⟩ | ⟨d, q, z1, z2, z3, z4, z5, z6, z7⟩
      · exact absurd z d1
      · exact ⟨d, q, z1, z2, z3, z4, z5, z6, n, hn, if_pos rfl⟩
    · rw [hc j j8] at jp
      have cp : c j ≠ 0 := fun z => by rw [z] at jp; exact absurd jp (by decide)
      refine ⟨T, h j + 1, d1, Nat.le_refl _, Nat.lt_of_not_le (fun z => cp (hO z j j8)), ?_, by omega, by have := (hh j j8).2; omega, n, hn, if_pos rfl⟩
      rw [d3, (hh j j8).1]
      exact nI_add _ 1
  · rw [bLearn_7, bLearn_f _ _ _ (by decide), e0 7 (by decide) (by decide)]
    rcases hC with ⟨z1, z2⟩ | ⟨m, m1, m2, m3, m4⟩
    · refine Or.inl ⟨?_, fun q => absurd q hN⟩
      rw [z1]
      split <;> rfl
    · by_cases q : m = n
      · rw [m2, q, if_pos rfl]
        exact Or.inl ⟨rfl, fun q => absurd q hN⟩
      · rw [m2, if_neg (fun z => q ((nI_eq (by omega) (by omega)).mp z))]
        refine Or.inr ⟨m, m1, rfl, ?_, m4⟩
        show 0 < (if m = n then 0 else c m)
        rw [if_neg q]
        exact m3
  · show (if j = n then 0 else c j) = 0
    split
    · rfl
    · exact hO he j hj
theorem BK.learn {M E T s : Nat} {V : xV} {k n : Nat} (h : BK M E T s V k) (hn : n < 8) (hd : V (20 + 4 * k) 8 ≠ -1) : BK M E T s (bLearn V (20 + 4 * k) n) k :=
  h.learn' hn (fun _ _ _ => rfl) rfl rfl rfl (Or.inl ⟨hd, rfl, rfl⟩)
theorem BK.deliver {M E T s : Nat} {V : xV} {k n d : Nat} (h : BK M E T s V k) (hT : T < 2 ^ 31) (hn : n < 8) (hd : d < 8) (hp : 0 < V (20 + 4 * k + 1) n) : BK M E T s (bDeliver V (20 + 4 * k) n d (nI T)) k := by
  unfold bDeliver
  refine BK.learn (h.learn' hn (fun i i8 i9 => ?_) ?_ ?_ ?_ (Or.inr ⟨?_, hT, n, hn, hp, ?_⟩)) hd ?_
  · rw [xu_row, if_neg i9, xu_row, if_neg i8]
  · rw [xu_ne _ _ _ (by omega), xu_ne _ _ _ (by omega)]
  · rw [xu_ne _ _ _ (by omega), xu_ne _ _ _ (by omega)]
  · rw [xu_ne _ _ _ (by omega), xu_ne _ _ _ (by omega)]
  · rw [xu_row, if_neg (by decide), xu_row, if_pos rfl]
  · rw [xu_row, if_pos rfl]
  · rw [bLearn_f _ _ _ (by decide), xu_row, if_neg (by decide), xu_row, if_pos rfl]
    exact (nI_m1 hT).symm
theorem BK.drop {M E T s : Nat} {V : xV} {k n : Nat} (h : BK M E T s V k) (hne : V (20 + 4 * k) 7 ≠ nI n) : BK M E T s (bPut V (20 + 4 * k) n 0 0) k := by
  obtain ⟨g, e, c, h, w, ⟨a1, a2, a3⟩, ⟨v0, v1, v3⟩, hc, hh, hw, hs, hD, hC, hO⟩ := h
  have b0 : bPut V (20 + 4 * k) n 0 0 (20 + 4 * k) = V (20 + 4 * k) := bPut_o _ _ _ _ _ (by omega) (by omega)
  have b3 : bPut V (20 + 4 * k) n 0 0 (20 + 4 * k + 3) = V (20 + 4 * k + 3) := bPut_o _ _ _ _ _ (by omega) (by omega)
  refine ⟨g, e, fun j => if j = n then 0 else c j, fun j => if j = n then 0 else h j, w, ⟨a1, a2, a3⟩, ?_, fun j hj => ?_, fun j hj => ?_, fun j hj => ?_, ⟨Nat.le_trans (sum8_le fun j hj => ?_) hs.1, hs.2⟩, ?_, ?_, fun he j hj => ?_⟩
  · rw [b0]; exact ⟨v0, v1, v3⟩
  · rw [bPut_1]
    show _ = nI (if j = n then 0 else c j)
    by_cases q : j = n
    · rw [if_pos q, if_pos q]; rfl
    · rw [if_neg q, if_neg q]; exact hc j hj
  · rw [bPut_2]
    show _ = nI (if j = n then 0 else h j) ∧ (if j = n then 0 else h j) ≤ M
    by_cases q : j = n
    · rw [if_pos q, if_pos q]; exact ⟨rfl, Nat.zero_le _⟩
    · rw [if_neg q, if_neg q]; exact hh j hj
  · rw [b3]
    refine ⟨(hw j hj).1, fun z => ?_⟩
    show (if j = n then 0 else c j) = 0
    rw [(hw j hj).2 z]
    split <;> rfl
  · show (if j = n then 0 else c j) ≤ c j
    split <;> omega
  · rw [b0]; exact hD
  · rw [b0]
    rcases hC with z | ⟨m, m1, m2, m3, m4⟩
    · exact Or.inl z
    · refine Or.inr ⟨m, m1, m2, ?_, m4⟩
      show 0 < (if m = n then 0 else c m)
      rw [if_neg (fun z => hne (by rw [m2, z]))]
      exact m3
  · show (if j = n then 0 else c j) = 0
    split
    · rfl
    · exact hO he j hj
theorem BK.halve {M E T s : Nat} {V : xV} {k g d : Nat} (h : BK M E T s V k) (hg : g < 8) (hd : d < 8) (hne : g ≠ d) (hp : 0 < V (20 + 4 * k + 1) g) (hz : ¬ 0 < V (20 + 4 * k + 1) d) (hkn : V (20 + 4 * k + 3) d = V (20 + 4 * k + 3) g) : BK (M + 1) E T s (bHalve V (20 + 4 * k) g d) k := by
  obtain ⟨g0, e, c, h, w, ⟨a1, a2, a3⟩, ⟨v0, v1, v3⟩, hc, hh, hw, hs, hD, hC, hO⟩ := h
  have c64 : ∀ n, n < 8 → c n ≤ 64 := fun n hn => by have := sum8_at c hn; omega
  have hcg := c64 g hg
  have cg : 0 < c g := by
    rw [hc g hg] at hp
    exact Nat.pos_of_ne_zero (fun z => by rw [z] at hp; exact absurd hp (by decide))
  have cd : c d = 0 := by
    rw [hc d hd] at hz
    have := c64 d hd
    exact Decidable.byContradiction (fun z => hz ((nI_ltI (a := 0) (by omega) (by omega)).mpr (by omega)))
  have wg : w g = false := by
    cases q : w g with
    | false => rfl
    | true => have := (hw g hg).2 q; omega
  have wd : w d = false := by
    cases q : w d with
    | false => rfl
    | true =>
      rw [(hw d hd).1, (hw g hg).1, q, wg, b2i_true, b2i_false] at hkn
      exact absurd hkn (by decide)
  have over : ¬ e ≤ T := fun z => by have := hO z g hg; omega
  have r0 : bHalve V (20 + 4 * k) g d (20 + 4 * k) = V (20 + 4 * k) := bHalve_o _ _ _ _ (by omega) (by omega)
  have r3 : bHalve V (20 + 4 * k) g d (20 + 4 * k + 3) = V (20 + 4 * k + 3) := bHalve_o _ _ _ _ (by omega) (by omega)
  have hf : nI (c g) / 2 = nI (c g / 2) := half64 ⟨c g, by omega⟩
  refine ⟨g0, e, fun j => if j = d then c g / 2 else (fun i => if i = g then c g - c g / 2 else c i) j, fun j => if j = d then h g + 1 else h j, w, ⟨a1, a2, a3⟩, ?_, fun j hj => ?_, fun j hj => ?_, fun j hj => ?_, ⟨?_, hs.2⟩, ?_, ?_, fun he => absurd he over⟩
  · rw [r0]; exact ⟨v0, v1, v3⟩
  · unfold bHalve
    rw [bPut_1, xu_row, hc g hg, hf]
    show _ = nI (if j = d then c g / 2 else if j = g then c g - c g / 2 else c j)
    by_cases q : j = d
    · rw [if_pos q, if_pos q]
    · rw [if_neg q, if_neg q]
      by_cases q2 : j = g
      · rw [if_pos q2, if_pos q2]
        exact pk_sub (by omega)
      · rw [if_neg q2, if_neg q2]; exact hc j hj
  · unfold bHalve
    rw [bPut_2, xu_ne _ _ _ (by omega)]
    show _ = nI (if j = d then h g + 1 else h j) ∧ (if j = d then h g + 1 else h j) ≤ M + 1
    have := hh g hg
    by_cases q : j = d
    · rw [if_pos q, if_pos q, this.1]
      exact ⟨nI_add _ 1, by omega⟩
    · rw [if_neg q, if_neg q]
      exact ⟨(hh j hj).1, by have := (hh j hj).2; omega⟩
  · rw [r3]
    refine ⟨(hw j hj).1, fun z => ?_⟩
    show (if j = d then c g / 2 else if j = g then c g - c g / 2 else c j) = 0
    rw [if_neg (fun q => by rw [q, wd] at z; exact absurd z (by decide)), if_neg (fun q => by rw [q, wg] at z; exact absurd z (by decide))]
    exact (hw j hj).2 z
  · have q1 := sum8_set c hg (c g - c g / 2)
    have q2 := sum8_set (fun i => if i = g then c g - c g / 2 else c i) hd (c g / 2)
    rw [if_neg (Ne.symm hne)] at q2
    have q4 := hs.1
    show sum8 (fun j => if j = d then c g / 2 else if j = g then c g - c g / 2 else c j) ≤ s
    omega
  · rw [r0]
    rcases hD with z | ⟨d, q, z1, z2, z3, z4, z5, z6, z7⟩
    · exact Or.inl z
    · exact Or.inr ⟨d, q, z1, z2, z3, z4, z5, by omega, z7⟩
  · rw [r0]
    rcases hC with z | ⟨m, m1, m2, m3, m4⟩
    · exact Or.inl z
    · refine Or.inr ⟨m, m1, m2, ?_, m4⟩
      show 0 < (if m = d then c g / 2 else if m = g then c g - c g / 2 else c m)
      rw [if_neg (fun z => by rw [z] at m3; omega)]
      split
      · omega
      · exact m3
theorem BK.keep {M E T s : Nat} {V : xV} {k r : Nat} (h : BK M E T s V k) (hr : r < 8) (hp : 0 < V (20 + 4 * k + 1) r) : BK M E T s (xu V (20 + 4 * k) 7 (nI r)) k := by
  obtain ⟨g, e, c, h, w, ha, ⟨v0, v1, v3⟩, hc, hh, hw, hs, hD, hC, hO⟩ := h
  have cp : c r ≠ 0 := fun z => by rw [hc r hr, z] at hp; exact absurd hp (by decide)
  have x7 : ∀ i, i ≠ 7 → xu V (20 + 4 * k) 7 (nI r) (20 + 4 * k) i = V (20 + 4 * k) i := fun i h => by rw [xu_row, if_neg h]
  have x1 : xu V (20 + 4 * k) 7 (nI r) (20 + 4 * k + 1) = V (20 + 4 * k + 1) := xu_ne _ _ _ (by omega)
  have x2 : xu V (20 + 4 * k) 7 (nI r) (20 + 4 * k + 2) = V (20 + 4 * k + 2) := xu_ne _ _ _ (by omega)
  have x3 : xu V (20 + 4 * k) 7 (nI r) (20 + 4 * k + 3) = V (20 + 4 * k + 3) := xu_ne _ _ _ (by omega)
  refine ⟨g, e, c, h, w, ha, ?_, ?_, ?_, ?_, hs, ?_, Or.inr ⟨r, hr, ?_, by omega, Nat.lt_of_not_le (fun z => cp (hO z r hr))⟩, hO⟩
  · rw [x7 0 (by decide), x7 1 (by decide), x7 3 (by decide)]; exact ⟨v0, v1, v3⟩
  · rw [x1]; exact hc
  · rw [x2]; exact hh
  · rw [x3]; exact hw
  · rw [x7 8 (by decide), x7 9 (by decide)]; exact hD
  · rw [xu_row, if_pos rfl]
theorem BK.tick {M E T T' s : Nat} {V : xV} {k : Nat} (h : BK M E T s V k) (hT : T ≤ T') (hb : E < 2 ^ 31 ∧ T' < 2 ^ 31) (hx : V (20 + 4 * k) 3 ≤ nI T ∨ ¬ V (20 + 4 * k) 3 ≤ nI T') : BK M E T' s V k := by
  obtain ⟨g, e, c, h, w, ⟨a1, a2, a3⟩, ⟨v0, v1, v3⟩, hc, hh, hw, hs, hD, hC, hO⟩ := h
  rw [v3, nI_leI (by omega) (by omega), nI_leI (by omega) (by omega)] at hx
  refine ⟨g, e, c, h, w, ⟨a1, a2, a3⟩, ⟨v0, v1, v3⟩, hc, hh, hw, hs, ?_, ?_, fun z => hO (hx.resolve_right (fun y => y z))⟩
  · rcases hD with z | ⟨d, q, z1, z2, z3⟩
    · exact Or.inl z
    · exact Or.inr ⟨d, q, z1, by omega, z3⟩
  · rcases hC with ⟨z1, z2⟩ | ⟨m, m1, m2, m3, m4⟩
    · exact Or.inl ⟨z1, fun q => by have := z2 q; omega⟩
    · exact Or.inr ⟨m, m1, m2, m3, by omega⟩
theorem bGone_1 (V : xV) (b j : Nat) (hj : j < 8) : bGone V b (b + 1) j = 0 := by
  unfold bGone
  rw [xu_ne _ _ _ (by omega), bGoneN_1, if_pos hj]
theorem bGoneN_2 (V : xV) (b n j : Nat) : bGoneN V b n (b + 2) j = if j < n then 0 else V (b + 2) j := by
  induction n with
  | zero => rw [if_neg (Nat.not_lt_zero j)]; rfl
  | succ n ih =>
    show bPut (bGoneN V b n) b n 0 0 (b + 2) j = _
    rw [bPut_2, ih]
    by_cases e : j = n
    · rw [if_pos e, if_pos (by omega)]
    · rw [if_neg e]
      by_cases q : j < n
      · rw [if_pos q, if_pos (by omega)]
      · rw [if_neg q, if_neg (by omega)]
theorem bGone_2 (V : xV) (b j : Nat) (hj : j < 8) : bGone V b (b + 2) j = 0 := by
  unfold bGone
  rw [xu_ne _ _ _ (by omega), bGoneN_2, if_pos hj]
theorem BK.gone {M E T T' s : Nat} {V : xV} {k : Nat} (h : BK M E T s V k) (hT : T ≤ T') (hb : E < 2 ^ 31 ∧ T' < 2 ^ 31) (hx : V (20 + 4 * k) 3 ≤ nI T') : BK M E T' s (bGone V (20 + 4 * k)) k := by
  obtain ⟨g, e, c, h, w, ⟨a1, a2, a3⟩, ⟨v0, v1, v3⟩, hc, hh, hw, hs, hD, hC, hO⟩ := h
  rw [v3, nI_leI (by omega) (by omega)] at hx
  have r3 : bGone V (20 + 4 * k) (20 + 4 * k + 3) = V (20 + 4 * k + 3) := bGone_o _ _ (by omega) (by omega) (by omega)
  refine ⟨g, e, fun _ => 0, fun _ => 0, w, ⟨a1, a2, a3⟩, ?_, fun n hn => ?_, fun n hn => ⟨?_, Nat.zero_le _⟩, fun n hn => ?_, ⟨Nat.zero_le _, hs.2⟩, ?_, Or.inl ⟨?_, fun _ => hx⟩, fun _ n _ => rfl⟩
  · rw [bGone_f _ _ (by decide), bGone_f _ _ (by decide), bGone_f _ _ (by decide)]; exact ⟨v0, v1, v3⟩
  · exact bGone_1 _ _ _ hn
  · exact bGone_2 _ _ _ hn
  · rw [r3]; exact ⟨(hw n hn).1, fun _ => rfl⟩
  · rw [bGone_f _ _ (by decide), bGone_f _ _ (by decide)]
    rcases hD with z | ⟨d, q, z1, z2, z3⟩
    · exact Or.inl z
    · exact Or.inr ⟨d, q, z1, by omega, z3⟩
  · unfold bGone
    rw [xu_row, if_pos rfl]
