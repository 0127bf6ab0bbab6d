/-! WHAT THE INVARIANT TELLS of one bundle, in the law's words -/
def vS (V : xV) (b : Nat) : Nat → Int32
  | 0 => 0
  | n + 1 => vS V b n + V (b + 1) n
def vK (V : xV) (b : Nat) : Nat → Int32
  | 0 => 0
  | n + 1 => vK V b n ||| V (b + 3) n
def sumN (c : Nat → Nat) : Nat → Nat
  | 0 => 0
  | n + 1 => sumN c n + c n
theorem sumN_8 (c : Nat → Nat) : sumN c 8 = sum8 c := by
  show 0 + c 0 + c 1 + c 2 + c 3 + c 4 + c 5 + c 6 + c 7 = sum8 c
  unfold sum8
  omega
theorem vS_n {V : xV} {b : Nat} {c : Nat → Nat} (h : ∀ n, n < 8 → V (b + 1) n = nI (c n)) (n : Nat) (hn : n ≤ 8) : vS V b n = nI (sumN c n) := by
  induction n with
  | zero => rfl
  | succ n ih =>
    show vS V b n + V (b + 1) n = nI (sumN c n + c n)
    rw [ih (by omega), h n (by omega), nI_add]
theorem or_00 : (0 : Int32) ||| 0 = 0 := by decide
theorem or_01 : (0 : Int32) ||| 1 = 1 := by decide
theorem or_10 : (1 : Int32) ||| 0 = 1 := by decide
theorem or_11 : (1 : Int32) ||| 1 = 1 := by decide
theorem vK_0 {V : xV} {b : Nat} (n : Nat) (h : ∀ m, m < n → V (b + 3) m = 0) : vK V b n = 0 := by
  induction n with
  | zero => rfl
  | succ n ih =>
    show vK V b n ||| V (b + 3) n = 0
    rw [ih (fun m hm => h m (by omega)), h n (by omega), or_00]
theorem vK_01 {V : xV} {b : Nat} (n : Nat) (h : ∀ m, m < n → V (b + 3) m = 0 ∨ V (b + 3) m = 1) : (vK V b n = 0 ∨ vK V b n = 1) ∧ ((∃ m, m < n ∧ V (b + 3) m = 1) → vK V b n = 1) := by
  induction n with
  | zero => exact ⟨Or.inl rfl, fun ⟨m, hm, _⟩ => absurd hm (Nat.not_lt_zero m)⟩
  | succ n ih =>
    obtain ⟨i1, i2⟩ := ih (fun m hm => h m (by omega))
    show (vK V b n ||| V (b + 3) n = 0 ∨ vK V b n ||| V (b + 3) n = 1) ∧ ((∃ m, m < n + 1 ∧ V (b + 3) m = 1) → vK V b n ||| V (b + 3) n = 1)
    rcases h n (by omega) with q | q
    · rw [q]
      have z : vK V b n ||| 0 = vK V b n := by
        rcases i1 with r | r
        · rw [r, or_00]
        · rw [r, or_10]
      rw [z]
      refine ⟨i1, fun ⟨m, hm, e⟩ => i2 ⟨m, ?_, e⟩⟩
      have : m ≠ n := fun w => by rw [w, q] at e; exact absurd e (by decide)
      omega
    · rw [q]
      have z : vK V b n ||| 1 = 1 := by
        rcases i1 with r | r
        · rw [r, or_01]
        · rw [r, or_11]
      rw [z]
      exact ⟨Or.inr rfl, fun _ => rfl⟩
theorem bits_at : ∀ a0 a1 a2 a3 a4 a5 a6 a7 : Bool, ∀ n : Fin 8, bLst [a0, a1, a2, a3, a4, a5, a6, a7] n.val = true → ¬ ((bOr (bLst [a0, a1, a2, a3, a4, a5, a6, a7]) 8 >>> (nI n.val &&& 31)) &&& 1) = 0 := by decide +kernel
theorem cBits_at (V : xV) (b : Nat) {n : Nat} (hn : n < 8) (h : 0 < V (b + 1) n) : ¬ ((cBits V b 8 >>> (nI n &&& 31)) &&& 1) = 0 := by
  rw [bOr_c, bOr_congr 8 (bLst_at (fun i => decide (0 < V (b + 1) i)))]
  refine bits_at _ _ _ _ _ _ _ _ ⟨n, hn⟩ ?_
  rw [← bLst_at (fun i => decide (0 < V (b + 1) i)) n hn]
  exact decide_eq_true h
theorem cBits_0 (V : xV) (b : Nat) (n : Nat) (h : ∀ m, m < n → ¬ 0 < V (b + 1) m) : cBits V b n = 0 := by
  induction n with
  | zero => rfl
  | succ n ih =>
    show (if 0 < V (b + 1) n then _ else cBits V b n) = 0
    rw [if_neg (h n (by omega))]
    exact ih (fun m hm => h m (by omega))
theorem cBits_ne (V : xV) (b : Nat) {n : Nat} (hn : n < 8) (h : 0 < V (b + 1) n) : ¬ cBits V b 8 = 0 := by
  intro z
  have q := cBits_at V b hn h
  rw [z] at q
  rcases lt8 hn with rfl | rfl | rfl | rfl | rfl | rfl | rfl | rfl <;> exact q (by decide)
theorem bits_one : ∀ n : Fin 8, bOr (fun i => decide (i = n.val)) 8 = 1 <<< (nI n.val &&& 31) := by decide +kernel
theorem cBits_one (V : xV) (b : Nat) {n : Nat} (hn : n < 8) (h : ∀ m, m < 8 → (0 < V (b + 1) m ↔ m = n)) : cBits V b 8 = 1 <<< (nI n &&& 31) := by
  rw [bOr_c, ← bits_one ⟨n, hn⟩]
  exact bOr_congr 8 (fun i hi => by
    by_cases e : i = n
    · rw [decide_eq_true e]; exact decide_eq_true ((h i hi).mpr e)
    · rw [decide_eq_false e]; exact decide_eq_false (fun z => e ((h i hi).mp z)))
section FF
variable {t nb nc : Nat} {od S : Nat → Nat} {V : xV}
theorem m1_lt : (-1 : Int32) < 0 := by decide
theorem INV.bf (hI : INV t nb nc od S V) (ht : t ≤ 100000) {k : Nat} (hk : k < nb) :
    (∀ n, n < 8 → 0 < V (20 + 4 * k + 1) n → V (20 + 4 * k + 3) n = 0) ∧ vS V (20 + 4 * k) 8 ≤ nI (S k) ∧ (vK V (20 + 4 * k) 8 = if V (20 + 4 * k) 8 < 0 then 0 else 1) ∧ (0 ≤ V (20 + 4 * k) 7 → ¬ ((cBits V (20 + 4 * k) 8 >>> (V (20 + 4 * k) 7 &&& 31)) &&& 1) = 0) ∧ (V (20 + 4 * k) 3 ≤ V 0 0 → cBits V (20 + 4 * k) 8 = 0 ∧ V (20 + 4 * k) 7 = -1) ∧ (V (20 + 4 * k) 8 < 0 → ¬ V (20 + 4 * k) 3 ≤ V 0 0 → 0 ≤ V (20 + 4 * k) 7) ∧ (0 < V (20 + 4 * k) 9 ↔ ¬ V (20 + 4 * k) 8 < 0) ∧ V (20 + 4 * k) 8 < V (20 + 4 * k) 3 ∧ V (20 + 4 * k) 8 ≤ V 0 0 := by
  have kz : ∀ m, m < 8 → V (20 + 4 * k + 3) m = 0 ∨ V (20 + 4 * k + 3) m = 1 := fun m hm => hI.kz hm hk
  obtain ⟨-, -, -, T, h4, h5, h6⟩ := hI
  obtain ⟨g, e, c, h, w, ⟨a1, a2, a3⟩, ⟨v0, v1, v3⟩, hc, hh, hw, hs, hD, hC, hO⟩ := h6.1 k hk
  have c64 : ∀ n, n < 8 → c n ≤ 64 := fun n hn => by have := sum8_at c hn; omega
  have cpos : ∀ n, n < 8 → (0 < V (20 + 4 * k + 1) n ↔ 0 < c n) := fun n hn => by
    have := c64 n hn
    rw [hc n hn]
    exact nI_ltI (a := 0) (by omega) (by omega)
  refine ⟨fun n hn z => ?_, ?_, ?_, fun z => ?_, fun z => ?_, fun z1 z2 => ?_, ?_, ?_, ?_⟩
  · have z := (cpos n hn).mp z
    rw [(hw n hn).1]
    exact b2i_f (fun q => by have := (hw n hn).2 q; omega)
  · rw [vS_n hc 8 (Nat.le_refl 8), sumN_8]
    exact (nI_leI (by omega) (by omega)).mpr hs.1
  · rcases hD with ⟨z1, -, z3⟩ | ⟨d, q, z1, z2, z3, z4, z5, z6, n, n8, z7⟩
    · rw [z1, if_pos m1_lt]
      exact vK_0 8 (fun m hm => by rw [(hw m hm).1, z3 m hm]; exact b2i_false)
    · rw [z1, if_neg (nI_pos (by omega))]
      exact (vK_01 8 kz).2 ⟨n, n8, by rw [(hw n n8).1, z7]; exact b2i_true⟩
  · rcases hC with ⟨z1, -⟩ | ⟨n, n8, z1, z2, -⟩
    · rw [z1] at z; exact absurd z (by decide)
    · rw [z1]
      exact cBits_at V _ n8 ((cpos n n8).mpr z2)
  · rw [v3, h5, nI_leI (by omega) (by omega)] at z
    refine ⟨cBits_0 V _ 8 (fun m hm q => ?_), ?_⟩
    · have := (cpos m hm).mp q
      have := hO z m hm
      omega
    · rcases hC with ⟨z1, -⟩ | ⟨n, n8, z1, z2, z3⟩
      · exact z1
      · omega
  · rw [v3, h5, nI_leI (by omega) (by omega)] at z2
    rcases hC with ⟨q1, q2⟩ | ⟨n, n8, q1, q2, q3⟩
    · rcases hD with ⟨d1, -⟩ | ⟨d, q, d1, d2⟩
      · exact absurd (q2 d1) z2
      · rw [d1] at z1
        exact absurd z1 (nI_pos (by omega))
    · rw [q1]
      exact nI_pos' (by omega)
  · rcases hD with ⟨d1, d2, -⟩ | ⟨d, q, d1, d2, d3, d4, d5, d6, -⟩
    · rw [d1, d2]
      exact ⟨fun z => absurd z (by decide), fun z => absurd m1_lt z⟩
    · rw [d1, d4]
      exact ⟨fun _ => nI_pos (by omega), fun _ => (nI_ltI (a := 0) (by omega) (by omega)).mpr (by omega)⟩
  · rw [v3]
    rcases hD with ⟨d1, -⟩ | ⟨d, q, d1, d2, d3, -⟩
    · rw [d1, i_lt, nI_toInt (by omega)]
      have q1 : (-1 : Int32).toInt = -1 := by decide
      omega
    · rw [d1]
      exact (nI_ltI (by omega) (by omega)).mpr d3
  · rw [h5]
    rcases hD with ⟨d1, -⟩ | ⟨d, q, d1, d2, d3, -⟩
    · rw [d1, i_le, nI_toInt (by omega)]
      have q1 : (-1 : Int32).toInt = -1 := by decide
      omega
    · rw [d1]
      exact (nI_leI (by omega) (by omega)).mpr d2
end FF
