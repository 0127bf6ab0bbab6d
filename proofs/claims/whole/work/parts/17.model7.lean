/-- rows 13 and 14 (job, giver) as F and G -/
def mJr (V : xV) (F G : Nat → Int32) : xV := fun i => if i = 13 then F else if i = 14 then G else V i
theorem mJr_o (V : xV) (F G : Nat → Int32) {i : Nat} (h : i ≠ 13) (h2 : i ≠ 14) : mJr V F G i = V i := by unfold mJr; rw [if_neg h, if_neg h2]
theorem mJr_0 (V : xV) : mJr V (V 13) (V 14) = V := by
  funext i
  unfold mJr
  by_cases h : i = 13
  · subst h; rfl
  · by_cases h2 : i = 14
    · subst h2; rfl
    · rw [if_neg h, if_neg h2]
theorem mJr_13 (V : xV) (F G : Nat → Int32) (k : Nat) (x : Int32) : xu (mJr V F G) 13 k x = mJr V (upd F k x) G := by
  funext i
  by_cases h : i = 13
  · subst h; rw [xu_same]; rfl
  · rw [xu_ne _ _ _ h]; unfold mJr; rw [if_neg h, if_neg h]
theorem mJr_14 (V : xV) (F G : Nat → Int32) (k : Nat) (x : Int32) : xu (mJr V F G) 14 k x = mJr V F (upd G k x) := by
  funext i
  by_cases h : i = 14
  · subst h; rw [xu_same]; rfl
  · rw [xu_ne _ _ _ h]; unfold mJr; simp only [h, if_false]
/-- F with a gap at p, what stood at p .. hi - 1 moved by one -/
def gapF (F : Nat → Int32) (p hi : Nat) : Nat → Int32 := fun j => if j ≤ p then F j else if j ≤ hi then F (j - 1) else F j
def insF (F : Nat → Int32) (p hi : Nat) (x : Int32) : Nat → Int32 := fun j => if j < p then F j else if j = p then x else if j ≤ hi then F (j - 1) else F j
theorem gapF_0 (F : Nat → Int32) (hi : Nat) : gapF F hi hi = F := by
  funext j
  unfold gapF
  by_cases h : j ≤ hi
  · rw [if_pos h]
  · rw [if_neg h, if_neg h]
theorem gapF_at (F : Nat → Int32) {p hi j : Nat} (h : j ≤ p) : gapF F p hi j = F j := if_pos h
theorem gapF_s (F : Nat → Int32) {p hi : Nat} (h : 1 ≤ p) (h2 : p ≤ hi) : upd (gapF F p hi) p (gapF F p hi (p - 1)) = gapF F (p - 1) hi := by
  rw [gapF_at F (by omega)]
  funext j
  unfold upd gapF
  by_cases e : j = p
  · subst e; rw [if_pos rfl, if_neg (by omega), if_pos h2]
  · rw [if_neg e]
    by_cases e1 : j ≤ p - 1
    · rw [if_pos e1, if_pos (by omega)]
    · rw [if_neg e1, if_neg (by omega)]
theorem gapF_e (F : Nat → Int32) {p hi : Nat} (x : Int32) : upd (gapF F p hi) p x = insF F p hi x := by
  funext j
  unfold upd gapF insF
  by_cases e : j = p
  · subst e; rw [if_pos rfl, if_neg (by omega), if_pos rfl]
  · rw [if_neg e]
    by_cases e1 : j < p
    · rw [if_pos e1, if_pos (by omega)]
    · rw [if_neg e1, if_neg (by omega), if_neg e]
/-- where k is put among the jobs begun .. begun + q - 1 -/
def insP (V : xV) (k begun : Nat) (F : Nat → Int32) : Nat → Nat
  | 0 => begun
  | q + 1 => if mPre V k (F (begun + q)).toNatClampNeg = true then insP V k begun F q else begun + (q + 1)
theorem insP_t {V : xV} {k begun : Nat} {F : Nat → Int32} {q : Nat} (hq : ¬ q = 0) (h : mPre V k (F (begun + q - 1)).toNatClampNeg = true) : insP V k begun F q = insP V k begun F (q - 1) := by
  cases q with
  | zero => exact absurd rfl hq
  | succ q => exact if_pos h
theorem insP_f {V : xV} {k begun : Nat} {F : Nat → Int32} {q : Nat} (hq : ¬ q = 0) (h : ¬ mPre V k (F (begun + q - 1)).toNatClampNeg = true) : insP V k begun F q = begun + q := by
  cases q with
  | zero => exact absurd rfl hq
  | succ q => exact if_neg h
theorem insP_in (V : xV) (k begun : Nat) (F : Nat → Int32) (q : Nat) : begun ≤ insP V k begun F q ∧ insP V k begun F q ≤ begun + q := by
  induction q with
  | zero => exact ⟨Nat.le_refl _, Nat.le_refl _⟩
  | succ q ih =>
    unfold insP
    split
    · omega
    · omega
def mIns (V : xV) (k begun : Nat) (g : Int32) (r : Nat × (Nat → Int32) × (Nat → Int32)) : Nat × (Nat → Int32) × (Nat → Int32) :=
  (r.1 + 1, insF r.2.1 (insP V k begun r.2.1 (r.1 - begun)) r.1 (nI k), insF r.2.2 (insP V k begun r.2.1 (r.1 - begun)) r.1 g)
def mGa (V : xV) (P : Nat → Nat → Nat → Bool) (a b begun : Nat) : Nat → Nat × (Nat → Int32) × (Nat → Int32)
  | 0 => (begun, V 13, V 14)
  | k + 1 => if P b a k = true then mIns V k begun (nI b) (mGa V P a b begun k) else if P a b k = true then mIns V k begun (nI a) (mGa V P a b begun k) else mGa V P a b begun k
theorem mGa_b {V : xV} {P : Nat → Nat → Nat → Bool} {a b begun k : Nat} (h : P b a k = true) : mGa V P a b begun (k + 1) = mIns V k begun (nI b) (mGa V P a b begun k) := if_pos h
theorem mGa_a {V : xV} {P : Nat → Nat → Nat → Bool} {a b begun k : Nat} (h1 : ¬ P b a k = true) (h : P a b k = true) : mGa V P a b begun (k + 1) = mIns V k begun (nI a) (mGa V P a b begun k) := (if_neg h1).trans (if_pos h)
theorem mGa_0 {V : xV} {P : Nat → Nat → Nat → Bool} {a b begun k : Nat} (h1 : ¬ P b a k = true) (h : ¬ P a b k = true) : mGa V P a b begun (k + 1) = mGa V P a b begun k := (if_neg h1).trans (if_neg h)
theorem mGa_n (V : xV) (P : Nat → Nat → Nat → Bool) (a b begun k : Nat) : begun ≤ (mGa V P a b begun k).1 ∧ (mGa V P a b begun k).1 ≤ begun + k := by
  induction k with
  | zero => exact ⟨Nat.le_refl _, Nat.le_refl _⟩
  | succ k ih =>
    unfold mGa
    split
    · show begun ≤ (mGa V P a b begun k).1 + 1 ∧ (mGa V P a b begun k).1 + 1 ≤ _; omega
    · split
      · show begun ≤ (mGa V P a b begun k).1 + 1 ∧ (mGa V P a b begun k).1 + 1 ≤ _; omega
      · omega
/-- the jobs from lo on are bundles, their givers a or b -/
def jOk (a b lo : Nat) (r : Nat × (Nat → Int32) × (Nat → Int32)) : Prop := ∀ j, lo ≤ j → j < r.1 → (r.2.1 j = nI (r.2.1 j).toNatClampNeg ∧ (r.2.1 j).toNatClampNeg < 40) ∧ (r.2.2 j = nI a ∨ r.2.2 j = nI b)
theorem jOk_ins {V : xV} {a b lo k begun : Nat} {r : Nat × (Nat → Int32) × (Nat → Int32)} (h : jOk a b lo r) (hlo : lo ≤ begun) (hk : k < 40) (hb : begun ≤ r.1) {g : Int32} (hg : g = nI a ∨ g = nI b) : jOk a b lo (mIns V k begun g r) := by
  intro j h1 h2
  have hp := insP_in V k begun r.2.1 (r.1 - begun)
  have h2 : j < r.1 + 1 := h2
  show (insF r.2.1 (insP V k begun r.2.1 (r.1 - begun)) r.1 (nI k) j = nI (insF r.2.1 (insP V k begun r.2.1 (r.1 - begun)) r.1 (nI k) j).toNatClampNeg ∧ (insF r.2.1 (insP V k begun r.2.1 (r.1 - begun)) r.1 (nI k) j).toNatClampNeg < 40) ∧ (insF r.2.2 (insP V k begun r.2.1 (r.1 - begun)) r.1 g j = nI a ∨ insF r.2.2 (insP V k begun r.2.1 (r.1 - begun)) r.1 g j = nI b)
  unfold insF
  by_cases e : j < insP V k begun r.2.1 (r.1 - begun)
  · rw [if_pos e, if_pos e]; exact h j h1 (by omega)
  · rw [if_neg e, if_neg e]
    by_cases e1 : j = insP V k begun r.2.1 (r.1 - begun)
    · rw [if_pos e1, if_pos e1, nI_clamp (by omega)]; exact ⟨⟨rfl, hk⟩, hg⟩
    · rw [if_neg e1, if_neg e1, if_pos (by omega), if_pos (by omega)]; exact h (j - 1) (by omega) (by omega)
theorem jOk_ga {V : xV} {P : Nat → Nat → Nat → Bool} {a b lo begun : Nat} (k : Nat) (hk : k ≤ 40) (hlo : lo ≤ begun) (h : jOk a b lo (begun, V 13, V 14)) : jOk a b lo (mGa V P a b begun k) := by
  induction k with
  | zero => exact h
  | succ k ih =>
    have hn := mGa_n V P a b begun k
    unfold mGa
    split
    · exact jOk_ins (ih (by omega)) hlo (by omega) hn.1 (Or.inr rfl)
    · split
      · exact jOk_ins (ih (by omega)) hlo (by omega) hn.1 (Or.inl rfl)
      · exact ih (by omega)
set_option maxHeartbeats 4000000 in
set_option maxRecDepth 100000 in
theorem c_X3_gatherD (l : Launch) {D : va_G} {sh : xS} {ad : Nat → Nat} {cI : ClassId} {tys : List (ClassId × FieldType)} (M : xMm sh ad cI tys) (V : xV) (a b begun cnt : Nat) (ha : a < 8) (hb8 : b < 8) (hbg : begun ≤ 40) (hcnt : V 17 17 = nI cnt) (hc40 : cnt ≤ 40) : xMi l yX3_gather wsX3_gather (rmK 1) D sh ad tys V [.ref (ad 17), .int (nI a), .int (nI b), .int 1, .int (nI begun)] (nI (mGa V (mWD V) a b begun cnt).1) (mJr V (mGa V (mWD V) a b begun cnt).2.1 (mGa V (mWD V) a b begun cnt).2.2) := by
  refine xOfi (cc := cX3_gather) (nL := 9) (ret := some .int) (own := RX3) (by decide) rfl rfl (Nat.le_of_ble_eq_true rfl) M.2.2 ?_
  intro p e s m args below meth c A ls B G hl
  have hx := B.1.1
  have hb := B.1.2.1
  have hin : ∀ w ∈ wsX30, w ∈ wsX3_gather := by decide +kernel
  have hl : lv_has ls 9 [(0, .ref (ad 17)), (1, .int (nI a)), (2, .int (nI b)), (3, .int 1), (4, .int (nI begun))] := hl
  refine lv_iload hx hb dX3_gather_0 (lv_at hl 4 rfl) ?_
  refine lv_istore (lv' := [(5, .int (nI begun)), (0, .ref (ad 17)), (1, .int (nI a)), (2, .int (nI b)), (3, .int 1), (4, .int (nI begun))]) hx hb dX3_gather_2 hl (by decide) rfl (fun ls hl => ?_)
  refine lv_iconst (v := 0) hx hb dX3_gather_4 (by decide) ?_
  refine lv_istore (lv' := [(6, .int 0), (5, .int (nI begun)), (0, .ref (ad 17)), (1, .int (nI a)), (2, .int (nI b)), (3, .int 1), (4, .int (nI begun))]) hx hb dX3_gather_5 hl (by decide) rfl (fun ls hl => ?_)
  have loop_7 : ∀ (f i : Nat), i ≤ cnt → cnt < i + f → ∀ (H : Heap) (locs : List Loc) (ls : Array Slot), xG D sh ad A s.heap (mJr V (mGa V (mWD V) a b begun i).2.1 (mGa V (mWD V) a b begun i).2.2) H locs → lv_has ls 9 [(0, .ref (ad 17)), (1, .int (nI a)), (2, .int (nI b)), (3, .int 1), (4, .int (nI begun)), (5, .int (nI ((mGa V (mWD V) a b begun i).1))), (6, .int (nI i))] → W p l e (rmK 1) s m args below meth c H locs 0 0 (xQi below D sh ad tys A args s (nI (mGa V (mWD V) a b begun cnt).1) (mJr V (mGa V (mWD V) a b begun cnt).2.1 (mGa V (mWD V) a b begun cnt).2.2)) (F0 m 7 ls []) := by
    intro f
    induction f with
    | zero => intro i h1 h2; exact absurd h2 (by omega)
    | succ f ih_7 =>
      intro i hi hf H locs ls G hl
      refine lv_iload hx hb dX3_gather_7 (lv_at hl 6 rfl) ?_
      refine lv_aload_n hx hb dX3_gather_9 rfl (lv_at hl 0 rfl) ?_
      refine m_getI B G M hin 17 (by decide) (by decide +kernel) dX3_gather_10 ?_
      refine x_top (show _ = nI cnt from (by rw [mJr_o _ _ _ (by decide) (by decide)]; exact hcnt)) ?_
      refine lv_icmp_ge (tgt := 146) hx hb dX3_gather_13 (by decide) (fun c_13 => ?_) (fun c_13 => ?_)
      · skip
        have c_13 : cnt ≤ i := (nI_leI (a := cnt) (b := i) (by omega) (by omega)).mp c_13
        refine lv_iload hx hb dX3_gather_146 (lv_at hl 5 rfl) ?_
        exact x_iret B G (by rw [show i = cnt by omega]) (by rw [show i = cnt by omega]) dX3_gather_148
      · skip
        have c_13 : ¬ (cnt ≤ i) := fun h9 => c_13 ((nI_leI (a := cnt) (b := i) (by omega) (by omega)).mpr h9)
        have hn_i := mGa_n V (mWD V) a b begun i
        have hj_i := jOk_ga (P := mWD V) (a := a) (b := b) i (by omega) (Nat.le_refl begun) (V := V) (fun j h1 h2 => absurd h1 (by have h2 : j < begun := h2; omega))
        obtain ⟨r, er⟩ : ∃ r, r = mGa V (mWD V) a b begun i := ⟨_, rfl⟩
        rw [← er] at G hl hn_i hj_i
        refine lv_aload_n hx hb dX3_gather_16 rfl (lv_at hl 0 rfl) ?_
        refine lv_iload_n hx hb dX3_gather_17 rfl (lv_at hl 2 rfl) ?_
        refine lv_iload_n hx hb dX3_gather_18 rfl (lv_at hl 1 rfl) ?_
        refine lv_iload hx hb dX3_gather_19 (lv_at hl 6 rfl) ?_
        refine lv_iload_n hx hb dX3_gather_21 rfl (lv_at hl 3 rfl) ?_
        refine x_callVi (rest := []) B G (c_X3_wantsD l M (mJr V r.2.1 r.2.2) b a i (by omega) (by omega) (by omega)) (cwV 4 B.1.2.2.2.2 gX3_gather_X3_wants rfl rfl rfl (by decide +kernel) ⟨Nat.le_of_ble_eq_true rfl, Nat.le_of_ble_eq_true rfl⟩) (m_recv B G M) rfl hl.1 rfl (Nat.le_of_ble_eq_true rfl) ⟨Nat.zero_le _, Nat.zero_le _⟩ dX3_gather_22 (fun H locs G => ?_)
        refine lv_istore (lv' := [(7, .int (b2i (mWD V b a i = true))), (0, .ref (ad 17)), (1, .int (nI a)), (2, .int (nI b)), (3, .int 1), (4, .int (nI begun)), (5, .int (nI r.1)), (6, .int (nI i))]) hx hb dX3_gather_25 hl (by decide) rfl (fun ls hl => ?_)
        refine lv_iload hx hb dX3_gather_27 (lv_at hl 0 rfl) ?_
        refine lv_if_ne (tgt := 44) hx hb dX3_gather_29 (by decide) (fun c_29 => ?_) (fun c_29 => ?_)
        · skip
          refine lv_iload hx hb dX3_gather_44 (lv_at hl 6 rfl) ?_
          refine lv_istore (lv' := [(8, .int (nI r.1)), (7, .int (b2i (mWD V b a i = true))), (0, .ref (ad 17)), (1, .int (nI a)), (2, .int (nI b)), (3, .int 1), (4, .int (nI begun)), (5, .int (nI r.1)), (6, .int (nI i))]) hx hb dX3_gather_46 hl (by decide) rfl (fun ls hl => ?_)
          have inner : ∀ (f q : Nat), q < f → q ≤ r.1 - begun → insP V i begun r.2.1 q = insP V i begun r.2.1 (r.1 - begun) → ∀ (H : Heap) (locs : List Loc) (ls : Array Slot), xG D sh ad A s.heap (mJr V (gapF r.2.1 (begun + q) r.1) (gapF r.2.2 (begun + q) r.1)) H locs → lv_has ls 9 [(0, .ref (ad 17)), (1, .int (nI a)), (2, .int (nI b)), (3, .int 1), (4, .int (nI begun)), (5, .int (nI r.1)), (6, .int (nI i)), (7, .int (b2i (mWD V b a i = true))), (8, .int (nI (begun + q)))] → W p l e (rmK 1) s m args below meth c H locs 0 0 (xQi below D sh ad tys A args s (nI (mGa V (mWD V) a b begun cnt).1) (mJr V (mGa V (mWD V) a b begun cnt).2.1 (mGa V (mWD V) a b begun cnt).2.2)) (F0 m 48 ls []) := by
            intro f
            induction f with
            | zero => intro q h1; exact absurd h1 (by omega)
            | succ f ih_48 =>
              intro q hq hq2 hpq H locs ls G hl
              refine lv_iload hx hb dX3_gather_48 (lv_at hl 8 rfl) ?_
              refine lv_iload hx hb dX3_gather_50 (lv_at hl 4 rfl) ?_
              refine lv_icmp_le (tgt := 111) hx hb dX3_gather_52 (by decide) (fun c_52 => ?_) (fun c_52 => ?_)
              · skip
                have c_52 : (begun + q) ≤ begun := (nI_leI (a := (begun + q)) (b := begun) (by omega) (by omega)).mp c_52
                have ep : insP V i begun r.2.1 (r.1 - begun) = begun + q := by rw [← hpq, show q = 0 by omega]; rfl
                refine lv_aload_n hx hb dX3_gather_111 rfl (lv_at hl 0 rfl) ?_
                refine m_getA B G M hin 13 (by decide) (by decide +kernel) dX3_gather_112 ?_
                refine lv_iload hx hb dX3_gather_115 (lv_at hl 8 rfl) ?_
                refine lv_iload hx hb dX3_gather_117 (lv_at hl 6 rfl) ?_
                refine m_ast B G M 13 (by decide) (begun + q) (show (begun + q) < 80 by omega) rfl dX3_gather_119 (fun H locs G => ?_)
                refine lv_aload_n hx hb dX3_gather_120 rfl (lv_at hl 0 rfl) ?_
                refine m_getA B G M hin 14 (by decide) (by decide +kernel) dX3_gather_121 ?_
                refine lv_iload hx hb dX3_gather_124 (lv_at hl 8 rfl) ?_
                refine lv_iload hx hb dX3_gather_126 (lv_at hl 7 rfl) ?_
                refine lv_if_eq (tgt := 135) hx hb dX3_gather_128 (by decide) (fun c_128 => ?_) (fun c_128 => ?_)
                · exact False.elim (c_29 c_128)
                · skip
                  refine lv_iload_n hx hb dX3_gather_131 rfl (lv_at hl 2 rfl) ?_
                  refine lv_goto (tgt := 136) hx hb dX3_gather_132 (by decide) ?_
                  refine m_ast B G M 14 (by decide) (begun + q) (show (begun + q) < 80 by omega) rfl dX3_gather_136 (fun H locs G => ?_)
                  refine lv_iinc (v := nI (r.1 + 1)) (lv' := [(5, .int (nI (r.1 + 1))), (0, .ref (ad 17)), (1, .int (nI a)), (2, .int (nI b)), (3, .int 1), (4, .int (nI begun)), (6, .int (nI i)), (7, .int (b2i (mWD V b a i = true))), (8, .int (nI (begun + q)))]) hx hb dX3_gather_137 hl (k := 5) rfl (nI_add r.1 1) (by decide) rfl (fun ls hl => ?_)
                  have eW : xu (xu (mJr V (gapF r.2.1 (begun + q) r.1) (gapF r.2.2 (begun + q) r.1)) 13 (begun + q) (nI i)) 14 (begun + q) (nI b) = mJr V (mIns V i begun (nI b) r).2.1 (mIns V i begun (nI b) r).2.2 := by rw [mJr_13, mJr_14, gapF_e, gapF_e]; unfold mIns; rw [ep]
                  rw [eW, er] at G
                  rw [er] at hl
                  refine lv_iinc (v := nI (i + 1)) (lv' := [(6, .int (nI (i + 1))), (5, .int (nI ((mGa V (mWD V) a b begun i).1 + 1))), (0, .ref (ad 17)), (1, .int (nI a)), (2, .int (nI b)), (3, .int 1), (4, .int (nI begun)), (7, .int (b2i (mWD V b a i = true))), (8, .int (nI (begun + q)))]) hx hb dX3_gather_140 hl (k := 6) rfl (nI_add i 1) (by decide) rfl (fun ls hl => ?_)
                  refine lv_goto (tgt := 7) hx hb dX3_gather_143 (by decide) ?_
                  have hl := lv_sub (l' := [(0, .ref (ad 17)), (1, .int (nI a)), (2, .int (nI b)), (3, .int 1), (4, .int (nI begun)), (5, .int (nI ((mGa V (mWD V) a b begun i).1 + 1))), (6, .int (nI (i + 1)))]) hl [2, 3, 4, 5, 6, 1, 0] rfl
                  have hl := lv_cast hl (congrArg (fun z : Int32 => ([(0, .ref (ad 17)), (1, .int (nI a)), (2, .int (nI b)), (3, .int 1), (4, .int (nI begun)), (5, .int z), (6, .int (nI (i + 1)))] : List (Nat × Value))) (show nI ((mGa V (mWD V) a b begun i).1 + 1) = nI ((mGa V (mWD V) a b begun (i + 1)).1) from (congrArg (fun z : Nat × (Nat → Int32) × (Nat → Int32) => nI z.1) (mGa_b (P := mWD V) (b2i_1 c_29))).symm))
                  have eV : mJr V (mIns V i begun (nI b) (mGa V (mWD V) a b begun i)).2.1 (mIns V i begun (nI b) (mGa V (mWD V) a b begun i)).2.2 = mJr V (mGa V (mWD V) a b begun (i + 1)).2.1 (mGa V (mWD V) a b begun (i + 1)).2.2 := (congrArg (fun z : Nat × (Nat → Int32) × (Nat → Int32) => mJr V z.2.1 z.2.2) (mGa_b (P := mWD V) (b2i_1 c_29))).symm
                  rw [eV] at G
                  exact ih_7 (i + 1) (by omega) (by omega) _ _ _ G hl
              · skip
                have c_52 : ¬ ((begun + q) ≤ begun) := fun h9 => c_52 ((nI_leI (a := (begun + q)) (b := begun) (by omega) (by omega)).mpr h9)
                refine lv_aload_n hx hb dX3_gather_55 rfl (lv_at hl 0 rfl) ?_
                refine lv_iload hx hb dX3_gather_56 (lv_at hl 6 rfl) ?_
                refine lv_aload_n hx hb dX3_gather_58 rfl (lv_at hl 0 rfl) ?_
                refine m_getA B G M hin 13 (by decide) (by decide +kernel) dX3_gather_59 ?_
                refine lv_iload hx hb dX3_gather_62 (lv_at hl 8 rfl) ?_
                refine lv_iconst (v := 1) hx hb dX3_gather_64 (by decide) ?_
                refine lv_isub hx hb dX3_gather_65 ?_
                refine x_top (show (nI (begun + q)) - 1 = nI (begun + q - 1) from pk_sub (a := begun + q) (b := 1) (by omega)) ?_
                have jq := (hj_i (begun + q - 1) (by omega) (by omega)).1
                refine m_ald B G M 13 (by decide) (begun + q - 1) (show (begun + q - 1) < 80 by omega) rfl dX3_gather_66 ?_
                refine x_top (show _ = nI (r.2.1 (begun + q - 1)).toNatClampNeg from ((show mJr V (gapF r.2.1 (begun + q) r.1) (gapF r.2.2 (begun + q) r.1) 13 (begun + q - 1) = r.2.1 (begun + q - 1) from gapF_at _ (by omega)).trans jq.1)) ?_
                refine x_callVi (rest := []) B G (c_X3_precedes l M (mJr V (gapF r.2.1 (begun + q) r.1) (gapF r.2.2 (begun + q) r.1)) i ((r.2.1 (begun + q - 1)).toNatClampNeg) (by omega) jq.2) (cwV 2 B.1.2.2.2.2 gX3_gather_X3_precedes rfl rfl rfl (by decide +kernel) ⟨Nat.le_of_ble_eq_true rfl, Nat.le_of_ble_eq_true rfl⟩) (m_recv B G M) rfl hl.1 rfl (Nat.le_of_ble_eq_true rfl) ⟨Nat.zero_le _, Nat.zero_le _⟩ dX3_gather_67 (fun H locs G => ?_)
                refine lv_if_eq (tgt := 111) hx hb dX3_gather_70 (by decide) (fun c_70 => ?_) (fun c_70 => ?_)
                · skip
                  have ep : insP V i begun r.2.1 (r.1 - begun) = begun + q := by rw [← hpq]; exact insP_f (V := V) (by omega) (b2i_0.mp c_70)
                  refine lv_aload_n hx hb dX3_gather_111 rfl (lv_at hl 0 rfl) ?_
                  refine m_getA B G M hin 13 (by decide) (by decide +kernel) dX3_gather_112 ?_
                  refine lv_iload hx hb dX3_gather_115 (lv_at hl 8 rfl) ?_
                  refine lv_iload hx hb dX3_gather_117 (lv_at hl 6 rfl) ?_
                  refine m_ast B G M 13 (by decide) (begun + q) (show (begun + q) < 80 by omega) rfl dX3_gather_119 (fun H locs G => ?_)
                  refine lv_aload_n hx hb dX3_gather_120 rfl (lv_at hl 0 rfl) ?_
                  refine m_getA B G M hin 14 (by decide) (by decide +kernel) dX3_gather_121 ?_
                  refine lv_iload hx hb dX3_gather_124 (lv_at hl 8 rfl) ?_
                  refine lv_iload hx hb dX3_gather_126 (lv_at hl 7 rfl) ?_
                  refine lv_if_eq (tgt := 135) hx hb dX3_gather_128 (by decide) (fun c_128 => ?_) (fun c_128 => ?_)
                  · exact False.elim (c_29 c_128)
                  · skip
                    refine lv_iload_n hx hb dX3_gather_131 rfl (lv_at hl 2 rfl) ?_
                    refine lv_goto (tgt := 136) hx hb dX3_gather_132 (by decide) ?_
                    refine m_ast B G M 14 (by decide) (begun + q) (show (begun + q) < 80 by omega) rfl dX3_gather_136 (fun H locs G => ?_)
                    refine lv_iinc (v := nI (r.1 + 1)) (lv' := [(5, .int (nI (r.1 + 1))), (0, .ref (ad 17)), (1, .int (nI a)), (2, .int (nI b)), (3, .int 1), (4, .int (nI begun)), (6, .int (nI i)), (7, .int (b2i (mWD V b a i = true))), (8, .int (nI (begun + q)))]) hx hb dX3_gather_137 hl (k := 5) rfl (nI_add r.1 1) (by decide) rfl (fun ls hl => ?_)
                    have eW : xu (xu (mJr V (gapF r.2.1 (begun + q) r.1) (gapF r.2.2 (begun + q) r.1)) 13 (begun + q) (nI i)) 14 (begun + q) (nI b) = mJr V (mIns V i begun (nI b) r).2.1 (mIns V i begun (nI b) r).2.2 := by rw [mJr_13, mJr_14, gapF_e, gapF_e]; unfold mIns; rw [ep]
                    rw [eW, er] at G
                    rw [er] at hl
                    refine lv_iinc (v := nI (i + 1)) (lv' := [(6, .int (nI (i + 1))), (5, .int (nI ((mGa V (mWD V) a b begun i).1 + 1))), (0, .ref (ad 17)), (1, .int (nI a)), (2, .int (nI b)), (3, .int 1), (4, .int (nI begun)), (7, .int (b2i (mWD V b a i = true))), (8, .int (nI (begun + q)))]) hx hb dX3_gather_140 hl (k := 6) rfl (nI_add i 1) (by decide) rfl (fun ls hl => ?_)
                    refine lv_goto (tgt := 7) hx hb dX3_gather_143 (by decide) ?_
                    have hl := lv_sub (l' := [(0, .ref (ad 17)), (1, .int (nI a)), (2, .int (nI b)), (3, .int 1), (4, .int (nI begun)), (5, .int (nI ((mGa V (mWD V) a b begun i).1 + 1))), (6, .int (nI (i + 1)))]) hl [2, 3, 4, 5, 6, 1, 0] rfl
                    have hl := lv_cast hl (congrArg (fun z : Int32 => ([(0, .ref (ad 17)), (1, .int (nI a)), (2, .int (nI b)), (3, .int 1), (4, .int (nI begun)), (5, .int z), (6, .int (nI (i + 1)))] : List (Nat × Value))) (show nI ((mGa V (mWD V) a b begun i).1 + 1) = nI ((mGa V (mWD V) a b begun (i + 1)).1) from (congrArg (fun z : Nat × (Nat → Int32) × (Nat → Int32) => nI z.1) (mGa_b (P := mWD V) (b2i_1 c_29))).symm))
                    have eV : mJr V (mIns V i begun (nI b) (mGa V (mWD V) a b begun i)).2.1 (mIns V i begun (nI b) (mGa V (mWD V) a b begun i)).2.2 = mJr V (mGa V (mWD V) a b begun (i + 1)).2.1 (mGa V (mWD V) a b begun (i + 1)).2.2 := (congrArg (fun z : Nat × (Nat → Int32) × (Nat → Int32) => mJr V z.2.1 z.2.2) (mGa_b (P := mWD V) (b2i_1 c_29))).symm
                    rw [eV] at G
                    exact ih_7 (i + 1) (by omega) (by omega) _ _ _ G hl
                · skip
                  refine lv_aload_n hx hb dX3_gather_73 rfl (lv_at hl 0 rfl) ?_
                  refine m_getA B G M hin 13 (by decide) (by decide +kernel) dX3_gather_74 ?_
                  refine lv_iload hx hb dX3_gather_77 (lv_at hl 8 rfl) ?_
                  refine lv_aload_n hx hb dX3_gather_79 rfl (lv_at hl 0 rfl) ?_
                  refine m_getA B G M hin 13 (by decide) (by decide +kernel) dX3_gather_80 ?_
                  refine lv_iload hx hb dX3_gather_83 (lv_at hl 8 rfl) ?_
                  refine lv_iconst (v := 1) hx hb dX3_gather_85 (by decide) ?_
                  refine lv_isub hx hb dX3_gather_86 ?_
                  refine x_top (show (nI (begun + q)) - 1 = nI (begun + q - 1) from pk_sub (a := begun + q) (b := 1) (by omega)) ?_
                  refine m_ald B G M 13 (by decide) (begun + q - 1) (show (begun + q - 1) < 80 by omega) rfl dX3_gather_87 ?_
                  refine m_ast B G M 13 (by decide) (begun + q) (show (begun + q) < 80 by omega) rfl dX3_gather_88 (fun H locs G => ?_)
                  refine lv_aload_n hx hb dX3_gather_89 rfl (lv_at hl 0 rfl) ?_
                  refine m_getA B G M hin 14 (by decide) (by decide +kernel) dX3_gather_90 ?_
                  refine lv_iload hx hb dX3_gather_93 (lv_at hl 8 rfl) ?_
                  refine lv_aload_n hx hb dX3_gather_95 rfl (lv_at hl 0 rfl) ?_
                  refine m_getA B G M hin 14 (by decide) (by decide +kernel) dX3_gather_96 ?_
                  refine lv_iload hx hb dX3_gather_99 (lv_at hl 8 rfl) ?_
                  refine lv_iconst (v := 1) hx hb dX3_gather_101 (by decide) ?_
                  refine lv_isub hx hb dX3_gather_102 ?_
                  refine x_top (show (nI (begun + q)) - 1 = nI (begun + q - 1) from pk_sub (a := begun + q) (b := 1) (by omega)) ?_
                  refine m_ald B G M 14 (by decide) (begun + q - 1) (show (begun + q - 1) < 80 by omega) rfl dX3_gather_103 ?_
                  refine m_ast B G M 14 (by decide) (begun + q) (show (begun + q) < 80 by omega) rfl dX3_gather_104 (fun H locs G => ?_)
                  refine lv_iinc (v := nI (begun + q - 1)) (lv' := [(8, .int (nI (begun + q - 1))), (0, .ref (ad 17)), (1, .int (nI a)), (2, .int (nI b)), (3, .int 1), (4, .int (nI begun)), (5, .int (nI r.1)), (6, .int (nI i)), (7, .int (b2i (mWD V b a i = true)))]) hx hb dX3_gather_105 hl (k := 8) rfl ((by have z := pk_m1 (begun + q - 1); rw [show begun + q - 1 + 1 = begun + q by omega] at z; exact z)) (by decide) rfl (fun ls hl => ?_)
                  refine lv_goto (tgt := 48) hx hb dX3_gather_108 (by decide) ?_
                  have hl := lv_sub (l' := [(0, .ref (ad 17)), (1, .int (nI a)), (2, .int (nI b)), (3, .int 1), (4, .int (nI begun)), (5, .int (nI r.1)), (6, .int (nI i)), (7, .int (b2i (mWD V b a i = true))), (8, .int (nI (begun + q - 1)))]) hl [1, 2, 3, 4, 5, 6, 7, 8, 0] rfl
                  have hl := lv_cast hl (congrArg (fun z : Int32 => ([(0, .ref (ad 17)), (1, .int (nI a)), (2, .int (nI b)), (3, .int 1), (4, .int (nI begun)), (5, .int (nI r.1)), (6, .int (nI i)), (7, .int (b2i (mWD V b a i = true))), (8, .int z)] : List (Nat × Value))) (show nI (begun + q - 1) = nI (begun + (q - 1)) from congrArg nI (by omega)))
                  have eV : xu (xu (mJr V (gapF r.2.1 (begun + q) r.1) (gapF r.2.2 (begun + q) r.1)) 13 (begun + q) ((mJr V (gapF r.2.1 (begun + q) r.1) (gapF r.2.2 (begun + q) r.1)) 13 (begun + q - 1))) 14 (begun + q) ((xu (mJr V (gapF r.2.1 (begun + q) r.1) (gapF r.2.2 (begun + q) r.1)) 13 (begun + q) ((mJr V (gapF r.2.1 (begun + q) r.1) (gapF r.2.2 (begun + q) r.1)) 13 (begun + q - 1))) 14 (begun + q - 1)) = mJr V (gapF r.2.1 (begun + (q - 1)) r.1) (gapF r.2.2 (begun + (q - 1)) r.1) := by rw [mJr_13]; show xu (mJr _ _ _) 14 _ (gapF r.2.2 (begun + q) r.1 (begun + q - 1)) = _; rw [mJr_14]; show mJr V (upd _ _ (gapF r.2.1 (begun + q) r.1 (begun + q - 1))) _ = _; rw [gapF_s _ (by omega) (by omega), gapF_s _ (by omega) (by omega), show begun + q - 1 = begun + (q - 1) by omega]
                  rw [eV] at G
                  exact ih_48 (q - 1) (by omega) (by omega) ((insP_t (V := V) (by omega) (b2i_1 c_70)).symm.trans hpq) _ _ _ G hl
          have hl := lv_sub (l' := [(0, .ref (ad 17)), (1, .int (nI a)), (2, .int (nI b)), (3, .int 1), (4, .int (nI begun)), (5, .int (nI r.1)), (6, .int (nI i)), (7, .int (b2i (mWD V b a i = true))), (8, .int (nI r.1))]) hl [2, 3, 4, 5, 6, 7, 8, 1, 0] rfl
          have hl := lv_cast hl (congrArg (fun z : Int32 => ([(0, .ref (ad 17)), (1, .int (nI a)), (2, .int (nI b)), (3, .int 1), (4, .int (nI begun)), (5, .int (nI r.1)), (6, .int (nI i)), (7, .int (b2i (mWD V b a i = true))), (8, .int z)] : List (Nat × Value))) (show nI r.1 = nI (begun + (r.1 - begun)) from congrArg nI (by omega)))
          have eV : mJr V r.2.1 r.2.2 = mJr V (gapF r.2.1 (begun + (r.1 - begun)) r.1) (gapF r.2.2 (begun + (r.1 - begun)) r.1) := by rw [show begun + (r.1 - begun) = r.1 by omega, gapF_0, gapF_0]
          rw [eV] at G
          exact inner (r.1 - begun + 1) (r.1 - begun) (by omega) (by omega) rfl _ _ _ G hl
        · skip
          refine lv_aload_n hx hb dX3_gather_32 rfl (lv_at hl 1 rfl) ?_
          refine lv_iload_n hx hb dX3_gather_33 rfl (lv_at hl 2 rfl) ?_
          refine lv_iload_n hx hb dX3_gather_34 rfl (lv_at hl 3 rfl) ?_
          refine lv_iload hx hb dX3_gather_35 (lv_at hl 7 rfl) ?_
          refine lv_iload_n hx hb dX3_gather_37 rfl (lv_at hl 4 rfl) ?_
          refine x_callVi (rest := []) B G (c_X3_wantsD l M (mJr V r.2.1 r.2.2) a b i (by omega) (by omega) (by omega)) (cwV 4 B.1.2.2.2.2 gX3_gather_X3_wants rfl rfl rfl (by decide +kernel) ⟨Nat.le_of_ble_eq_true rfl, Nat.le_of_ble_eq_true rfl⟩) (m_recv B G M) rfl hl.1 rfl (Nat.le_of_ble_eq_true rfl) ⟨Nat.zero_le _, Nat.zero_le _⟩ dX3_gather_38 (fun H locs G => ?_)
          refine lv_if_eq (tgt := 140) hx hb dX3_gather_41 (by decide) (fun c_41 => ?_) (fun c_41 => ?_)
          · skip
            rw [er] at G hl
            refine lv_iinc (v := nI (i + 1)) (lv' := [(6, .int (nI (i + 1))), (7, .int (b2i (mWD V b a i = true))), (0, .ref (ad 17)), (1, .int (nI a)), (2, .int (nI b)), (3, .int 1), (4, .int (nI begun)), (5, .int (nI ((mGa V (mWD V) a b begun i).1)))]) hx hb dX3_gather_140 hl (k := 7) rfl (nI_add i 1) (by decide) rfl (fun ls hl => ?_)
            refine lv_goto (tgt := 7) hx hb dX3_gather_143 (by decide) ?_
            have hl := lv_sub (l' := [(0, .ref (ad 17)), (1, .int (nI a)), (2, .int (nI b)), (3, .int 1), (4, .int (nI begun)), (5, .int (nI ((mGa V (mWD V) a b begun i).1))), (6, .int (nI (i + 1)))]) hl [2, 3, 4, 5, 6, 7, 0] rfl
            have hl := lv_cast hl (congrArg (fun z : Int32 => ([(0, .ref (ad 17)), (1, .int (nI a)), (2, .int (nI b)), (3, .int 1), (4, .int (nI begun)), (5, .int z), (6, .int (nI (i + 1)))] : List (Nat × Value))) (show nI ((mGa V (mWD V) a b begun i).1) = nI ((mGa V (mWD V) a b begun (i + 1)).1) from (congrArg (fun z : Nat × (Nat → Int32) × (Nat → Int32) => nI z.1) (mGa_0 (P := mWD V) (b2i_0.mp c_29) (b2i_0.mp c_41))).symm))
            have eV : mJr V (mGa V (mWD V) a b begun i).2.1 (mGa V (mWD V) a b begun i).2.2 = mJr V (mGa V (mWD V) a b begun (i + 1)).2.1 (mGa V (mWD V) a b begun (i + 1)).2.2 := (congrArg (fun z : Nat × (Nat → Int32) × (Nat → Int32) => mJr V z.2.1 z.2.2) (mGa_0 (P := mWD V) (b2i_0.mp c_29) (b2i_0.mp c_41))).symm
            rw [eV] at G
            exact ih_7 (i + 1) (by omega) (by omega) _ _ _ G hl
          · skip
            refine lv_iload hx hb dX3_gather_44 (lv_at hl 6 rfl) ?_
            refine lv_istore (lv' := [(8, .int (nI r.1)), (7, .int (b2i (mWD V b a i = true))), (0, .ref (ad 17)), (1, .int (nI a)), (2, .int (nI b)), (3, .int 1), (4, .int (nI begun)), (5, .int (nI r.1)), (6, .int (nI i))]) hx hb dX3_gather_46 hl (by decide) rfl (fun ls hl => ?_)
            have inner : ∀ (f q : Nat), q < f → q ≤ r.1 - begun → insP V i begun r.2.1 q = insP V i begun r.2.1 (r.1 - begun) → ∀ (H : Heap) (locs : List Loc) (ls : Array Slot), xG D sh ad A s.heap (mJr V (gapF r.2.1 (begun + q) r.1) (gapF r.2.2 (begun + q) r.1)) H locs → lv_has ls 9 [(0, .ref (ad 17)), (1, .int (nI a)), (2, .int (nI b)), (3, .int 1), (4, .int (nI begun)), (5, .int (nI r.1)), (6, .int (nI i)), (7, .int (b2i (mWD V b a i = true))), (8, .int (nI (begun + q)))] → W p l e (rmK 1) s m args below meth c H locs 0 0 (xQi below D sh ad tys A args s (nI (mGa V (mWD V) a b begun cnt).1) (mJr V (mGa V (mWD V) a b begun cnt).2.1 (mGa V (mWD V) a b begun cnt).2.2)) (F0 m 48 ls []) := by
              intro f
              induction f with
              | zero => intro q h1; exact absurd h1 (by omega)
              | succ f ih_48 =>
                intro q hq hq2 hpq H locs ls G hl
                refine lv_iload hx hb dX3_gather_48 (lv_at hl 8 rfl) ?_
                refine lv_iload hx hb dX3_gather_50 (lv_at hl 4 rfl) ?_
                refine lv_icmp_le (tgt := 111) hx hb dX3_gather_52 (by decide) (fun c_52 => ?_) (fun c_52 => ?_)
                · skip
                  have c_52 : (begun + q) ≤ begun := (nI_leI (a := (begun + q)) (b := begun) (by omega) (by omega)).mp c_52
                  have ep : insP V i begun r.2.1 (r.1 - begun) = begun + q := by rw [← hpq, show q = 0 by omega]; rfl
                  refine lv_aload_n hx hb dX3_gather_111 rfl (lv_at hl 0 rfl) ?_
                  refine m_getA B G M hin 13 (by decide) (by decide +kernel) dX3_gather_112 ?_
                  refine lv_iload hx hb dX3_gather_115 (lv_at hl 8 rfl) ?_
                  refine lv_iload hx hb dX3_gather_117 (lv_at hl 6 rfl) ?_
                  refine m_ast B G M 13 (by decide) (begun + q) (show (begun + q) < 80 by omega) rfl dX3_gather_119 (fun H locs G => ?_)
                  refine lv_aload_n hx hb dX3_gather_120 rfl (lv_at hl 0 rfl) ?_
                  refine m_getA B G M hin 14 (by decide) (by decide +kernel) dX3_gather_121 ?_
                  refine lv_iload hx hb dX3_gather_124 (lv_at hl 8 rfl) ?_
                  refine lv_iload hx hb dX3_gather_126 (lv_at hl 7 rfl) ?_
                  refine lv_if_eq (tgt := 135) hx hb dX3_gather_128 (by decide) (fun c_128 => ?_) (fun c_128 => ?_)
                  · skip
                    refine lv_iload_n hx hb dX3_gather_135 rfl (lv_at hl 1 rfl) ?_
                    refine m_ast B G M 14 (by decide) (begun + q) (show (begun + q) < 80 by omega) rfl dX3_gather_136 (fun H locs G => ?_)
                    refine lv_iinc (v := nI (r.1 + 1)) (lv' := [(5, .int (nI (r.1 + 1))), (0, .ref (ad 17)), (1, .int (nI a)), (2, .int (nI b)), (3, .int 1), (4, .int (nI begun)), (6, .int (nI i)), (7, .int (b2i (mWD V b a i = true))), (8, .int (nI (begun + q)))]) hx hb dX3_gather_137 hl (k := 5) rfl (nI_add r.1 1) (by decide) rfl (fun ls hl => ?_)
                    have eW : xu (xu (mJr V (gapF r.2.1 (begun + q) r.1) (gapF r.2.2 (begun + q) r.1)) 13 (begun + q) (nI i)) 14 (begun + q) (nI a) = mJr V (mIns V i begun (nI a) r).2.1 (mIns V i begun (nI a) r).2.2 := by rw [mJr_13, mJr_14, gapF_e, gapF_e]; unfold mIns; rw [ep]
                    rw [eW, er] at G
                    rw [er] at hl
                    refine lv_iinc (v := nI (i + 1)) (lv' := [(6, .int (nI (i + 1))), (5, .int (nI ((mGa V (mWD V) a b begun i).1 + 1))), (0, .ref (ad 17)), (1, .int (nI a)), (2, .int (nI b)), (3, .int 1), (4, .int (nI begun)), (7, .int (b2i (mWD V b a i = true))), (8, .int (nI (begun + q)))]) hx hb dX3_gather_140 hl (k := 6) rfl (nI_add i 1) (by decide) rfl (fun ls hl => ?_)
                    refine lv_goto (tgt := 7) hx hb dX3_gather_143 (by decide) ?_
                    have hl := lv_sub (l' := [(0, .ref (ad 17)), (1, .int (nI a)), (2, .int (nI b)), (3, .int 1), (4, .int (nI begun)), (5, .int (nI ((mGa V (mWD V) a b begun i).1 + 1))), (6, .int (nI (i + 1)))]) hl [2, 3, 4, 5, 6, 1, 0] rfl
                    have hl := lv_cast hl (congrArg (fun z : Int32 => ([(0, .ref (ad 17)), (1, .int (nI a)), (2, .int (nI b)), (3, .int 1), (4, .int (nI begun)), (5, .int z), (6, .int (nI (i + 1)))] : List (Nat × Value))) (show nI ((mGa V (mWD V) a b begun i).1 + 1) = nI ((mGa V (mWD V) a b begun (i + 1)).1) from (congrArg (fun z : Nat × (Nat → Int32) × (Nat → Int32) => nI z.1) (mGa_a (P := mWD V) (b2i_0.mp c_29) (b2i_1 c_41))).symm))
                    have eV : mJr V (mIns V i begun (nI a) (mGa V (mWD V) a b begun i)).2.1 (mIns V i begun (nI a) (mGa V (mWD V) a b begun i)).2.2 = mJr V (mGa V (mWD V) a b begun (i + 1)).2.1 (mGa V (mWD V) a b begun (i + 1)).2.2 := (congrArg (fun z : Nat × (Nat → Int32) × (Nat → Int32) => mJr V z.2.1 z.2.2) (mGa_a (P := mWD V) (b2i_0.mp c_29) (b2i_1 c_41))).symm
                    rw [eV] at G
                    exact ih_7 (i + 1) (by omega) (by omega) _ _ _ G hl
                  · exact False.elim (c_128 c_29)
                · skip
                  have c_52 : ¬ ((begun + q) ≤ begun) := fun h9 => c_52 ((nI_leI (a := (begun + q)) (b := begun) (by omega) (by omega)).mpr h9)
                  refine lv_aload_n hx hb dX3_gather_55 rfl (lv_at hl 0 rfl) ?_
                  refine lv_iload hx hb dX3_gather_56 (lv_at hl 6 rfl) ?_
                  refine lv_aload_n hx hb dX3_gather_58 rfl (lv_at hl 0 rfl) ?_
                  refine m_getA B G M hin 13 (by decide) (by decide +kernel) dX3_gather_59 ?_
                  refine lv_iload hx hb dX3_gather_62 (lv_at hl 8 rfl) ?_
                  refine lv_iconst (v := 1) hx hb dX3_gather_64 (by decide) ?_
                  refine lv_isub hx hb dX3_gather_65 ?_
                  refine x_top (show (nI (begun + q)) - 1 = nI (begun + q - 1) from pk_sub (a := begun + q) (b := 1) (by omega)) ?_
                  have jq := (hj_i (begun + q - 1) (by omega) (by omega)).1
                  refine m_ald B G M 13 (by decide) (begun + q - 1) (show (begun + q - 1) < 80 by omega) rfl dX3_gather_66 ?_
                  refine x_top (show _ = nI (r.2.1 (begun + q - 1)).toNatClampNeg from ((show mJr V (gapF r.2.1 (begun + q) r.1) (gapF r.2.2 (begun + q) r.1) 13 (begun + q - 1) = r.2.1 (begun + q - 1) from gapF_at _ (by omega)).trans jq.1)) ?_
                  refine x_callVi (rest := []) B G (c_X3_precedes l M (mJr V (gapF r.2.1 (begun + q) r.1) (gapF r.2.2 (begun + q) r.1)) i ((r.2.1 (begun + q - 1)).toNatClampNeg) (by omega) jq.2) (cwV 2 B.1.2.2.2.2 gX3_gather_X3_precedes rfl rfl rfl (by decide +kernel) ⟨Nat.le_of_ble_eq_true rfl, Nat.le_of_ble_eq_true rfl⟩) (m_recv B G M) rfl hl.1 rfl (Nat.le_of_ble_eq_true rfl) ⟨Nat.zero_le _, Nat.zero_le _⟩ dX3_gather_67 (fun H locs G => ?_)
                  refine lv_if_eq (tgt := 111) hx hb dX3_gather_70 (by decide) (fun c_70 => ?_) (fun c_70 => ?_)
                  · skip
                    have ep : insP V i begun r.2.1 (r.1 - begun) = begun + q := by rw [← hpq]; exact insP_f (V := V) (by omega) (b2i_0.mp c_70)
                    refine lv_aload_n hx hb dX3_gather_111 rfl (lv_at hl 0 rfl) ?_
                    refine m_getA B G M hin 13 (by decide) (by decide +kernel) dX3_gather_112 ?_
                    refine lv_iload hx hb dX3_gather_115 (lv_at hl 8 rfl) ?_
                    refine lv_iload hx hb dX3_gather_117 (lv_at hl 6 rfl) ?_
                    refine m_ast B G M 13 (by decide) (begun + q) (show (begun + q) < 80 by omega) rfl dX3_gather_119 (fun H locs G => ?_)
                    refine lv_aload_n hx hb dX3_gather_120 rfl (lv_at hl 0 rfl) ?_
                    refine m_getA B G M hin 14 (by decide) (by decide +kernel) dX3_gather_121 ?_
                    refine lv_iload hx hb dX3_gather_124 (lv_at hl 8 rfl) ?_
                    refine lv_iload hx hb dX3_gather_126 (lv_at hl 7 rfl) ?_
                    refine lv_if_eq (tgt := 135) hx hb dX3_gather_128 (by decide) (fun c_128 => ?_) (fun c_128 => ?_)
                    · skip
                      refine lv_iload_n hx hb dX3_gather_135 rfl (lv_at hl 1 rfl) ?_
                      refine m_ast B G M 14 (by decide) (begun + q) (show (begun + q) < 80 by omega) rfl dX3_gather_136 (fun H locs G => ?_)
                      refine lv_iinc (v := nI (r.1 + 1)) (lv' := [(5, .int (nI (r.1 + 1))), (0, .ref (ad 17)), (1, .int (nI a)), (2, .int (nI b)), (3, .int 1), (4, .int (nI begun)), (6, .int (nI i)), (7, .int (b2i (mWD V b a i = true))), (8, .int (nI (begun + q)))]) hx hb dX3_gather_137 hl (k := 5) rfl (nI_add r.1 1) (by decide) rfl (fun ls hl => ?_)
                      have eW : xu (xu (mJr V (gapF r.2.1 (begun + q) r.1) (gapF r.2.2 (begun + q) r.1)) 13 (begun + q) (nI i)) 14 (begun + q) (nI a) = mJr V (mIns V i begun (nI a) r).2.1 (mIns V i begun (nI a) r).2.2 := by rw [mJr_13, mJr_14, gapF_e, gapF_e]; unfold mIns; rw [ep]
                      rw [eW, er] at G
                      rw [er] at hl
                      refine lv_iinc (v := nI (i + 1)) (lv' := [(6, .int (nI (i + 1))), (5, .int (nI ((mGa V (mWD V) a b begun i).1 + 1))), (0, .ref (ad 17)), (1, .int (nI a)), (2, .int (nI b)), (3, .int 1), (4, .int (nI begun)), (7, .int (b2i (mWD V b a i = true))), (8, .int (nI (begun + q)))]) hx hb dX3_gather_140 hl (k := 6) rfl (nI_add i 1) (by decide) rfl (fun ls hl => ?_)
                      refine lv_goto (tgt := 7) hx hb dX3_gather_143 (by decide) ?_
                      have hl := lv_sub (l' := [(0, .ref (ad 17)), (1, .int (nI a)), (2, .int (nI b)), (3, .int 1), (4, .int (nI begun)), (5, .int (nI ((mGa V (mWD V) a b begun i).1 + 1))), (6, .int (nI (i + 1)))]) hl [2, 3, 4, 5, 6, 1, 0] rfl
                      have hl := lv_cast hl (congrArg (fun z : Int32 => ([(0, .ref (ad 17)), (1, .int (nI a)), (2, .int (nI b)), (3, .int 1), (4, .int (nI begun)), (5, .int z), (6, .int (nI (i + 1)))] : List (Nat × Value))) (show nI ((mGa V (mWD V) a b begun i).1 + 1) = nI ((mGa V (mWD V) a b begun (i + 1)).1) from (congrArg (fun z : Nat × (Nat → Int32) × (Nat → Int32) => nI z.1) (mGa_a (P := mWD V) (b2i_0.mp c_29) (b2i_1 c_41))).symm))
                      have eV : mJr V (mIns V i begun (nI a) (mGa V (mWD V) a b begun i)).2.1 (mIns V i begun (nI a) (mGa V (mWD V) a b begun i)).2.2 = mJr V (mGa V (mWD V) a b begun (i + 1)).2.1 (mGa V (mWD V) a b begun (i + 1)).2.2 := (congrArg (fun z : Nat × (Nat → Int32) × (Nat → Int32) => mJr V z.2.1 z.2.2) (mGa_a (P := mWD V) (b2i_0.mp c_29) (b2i_1 c_41))).symm
                      rw [eV] at G
                      exact ih_7 (i + 1) (by omega) (by omega) _ _ _ G hl
                    · exact False.elim (c_128 c_29)
                  · skip
                    refine lv_aload_n hx hb dX3_gather_73 rfl (lv_at hl 0 rfl) ?_
                    refine m_getA B G M hin 13 (by decide) (by decide +kernel) dX3_gather_74 ?_
                    refine lv_iload hx hb dX3_gather_77 (lv_at hl 8 rfl) ?_
                    refine lv_aload_n hx hb dX3_gather_79 rfl (lv_at hl 0 rfl) ?_
                    refine m_getA B G M hin 13 (by decide) (by decide +kernel) dX3_gather_80 ?_
                    refine lv_iload hx hb dX3_gather_83 (lv_at hl 8 rfl) ?_
                    refine lv_iconst (v := 1) hx hb dX3_gather_85 (by decide) ?_
                    refine lv_isub hx hb dX3_gather_86 ?_
                    refine x_top (show (nI (begun + q)) - 1 = nI (begun + q - 1) from pk_sub (a := begun + q) (b := 1) (by omega)) ?_
                    refine m_ald B G M 13 (by decide) (begun + q - 1) (show (begun + q - 1) < 80 by omega) rfl dX3_gather_87 ?_
                    refine m_ast B G M 13 (by decide) (begun + q) (show (begun + q) < 80 by omega) rfl dX3_gather_88 (fun H locs G => ?_)
                    refine lv_aload_n hx hb dX3_gather_89 rfl (lv_at hl 0 rfl) ?_
                    refine m_getA B G M hin 14 (by decide) (by decide +kernel) dX3_gather_90 ?_
                    refine lv_iload hx hb dX3_gather_93 (lv_at hl 8 rfl) ?_
                    refine lv_aload_n hx hb dX3_gather_95 rfl (lv_at hl 0 rfl) ?_
                    refine m_getA B G M hin 14 (by decide) (by decide +kernel) dX3_gather_96 ?_
                    refine lv_iload hx hb dX3_gather_99 (lv_at hl 8 rfl) ?_
                    refine lv_iconst (v := 1) hx hb dX3_gather_101 (by decide) ?_
                    refine lv_isub hx hb dX3_gather_102 ?_
                    refine x_top (show (nI (begun + q)) - 1 = nI (begun + q - 1) from pk_sub (a := begun + q) (b := 1) (by omega)) ?_
                    refine m_ald B G M 14 (by decide) (begun + q - 1) (show (begun + q - 1) < 80 by omega) rfl dX3_gather_103 ?_
                    refine m_ast B G M 14 (by decide) (begun + q) (show (begun + q) < 80 by omega) rfl dX3_gather_104 (fun H locs G => ?_)
                    refine lv_iinc (v := nI (begun + q - 1)) (lv' := [(8, .int (nI (begun + q - 1))), (0, .ref (ad 17)), (1, .int (nI a)), (2, .int (nI b)), (3, .int 1), (4, .int (nI begun)), (5, .int (nI r.1)), (6, .int (nI i)), (7, .int (b2i (mWD V b a i = true)))]) hx hb dX3_gather_105 hl (k := 8) rfl ((by have z := pk_m1 (begun + q - 1); rw [show begun + q - 1 + 1 = begun + q by omega] at z; exact z)) (by decide) rfl (fun ls hl => ?_)
                    refine lv_goto (tgt := 48) hx hb dX3_gather_108 (by decide) ?_
                    have hl := lv_sub (l' := [(0, .ref (ad 17)), (1, .int (nI a)), (2, .int (nI b)), (3, .int 1), (4, .int (nI begun)), (5, .int (nI r.1)), (6, .int (nI i)), (7, .int (b2i (mWD V b a i = true))), (8, .int (nI (begun + q - 1)))]) hl [1, 2, 3, 4, 5, 6, 7, 8, 0] rfl
                    have hl := lv_cast hl (congrArg (fun z : Int32 => ([(0, .ref (ad 17)), (1, .int (nI a)), (2, .int (nI b)), (3, .int 1), (4, .int (nI begun)), (5, .int (nI r.1)), (6, .int (nI i)), (7, .int (b2i (mWD V b a i = true))), (8, .int z)] : List (Nat × Value))) (show nI (begun + q - 1) = nI (begun + (q - 1)) from congrArg nI (by omega)))
                    have eV : xu (xu (mJr V (gapF r.2.1 (begun + q) r.1) (gapF r.2.2 (begun + q) r.1)) 13 (begun + q) ((mJr V (gapF r.2.1 (begun + q) r.1) (gapF r.2.2 (begun + q) r.1)) 13 (begun + q - 1))) 14 (begun + q) ((xu (mJr V (gapF r.2.1 (begun + q) r.1) (gapF r.2.2 (begun + q) r.1)) 13 (begun + q) ((mJr V (gapF r.2.1 (begun + q) r.1) (gapF r.2.2 (begun + q) r.1)) 13 (begun + q - 1))) 14 (begun + q - 1)) = mJr V (gapF r.2.1 (begun + (q - 1)) r.1) (gapF r.2.2 (begun + (q - 1)) r.1) := by rw [mJr_13]; show xu (mJr _ _ _) 14 _ (gapF r.2.2 (begun + q) r.1 (begun + q - 1)) = _; rw [mJr_14]; show mJr V (upd _ _ (gapF r.2.1 (begun + q) r.1 (begun + q - 1))) _ = _; rw [gapF_s _ (by omega) (by omega), gapF_s _ (by omega) (by omega), show begun + q - 1 = begun + (q - 1) by omega]
                    rw [eV] at G
                    exact ih_48 (q - 1) (by omega) (by omega) ((insP_t (V := V) (by omega) (b2i_1 c_70)).symm.trans hpq) _ _ _ G hl
            have hl := lv_sub (l' := [(0, .ref (ad 17)), (1, .int (nI a)), (2, .int (nI b)), (3, .int 1), (4, .int (nI begun)), (5, .int (nI r.1)), (6, .int (nI i)), (7, .int (b2i (mWD V b a i = true))), (8, .int (nI r.1))]) hl [2, 3, 4, 5, 6, 7, 8, 1, 0] rfl
            have hl := lv_cast hl (congrArg (fun z : Int32 => ([(0, .ref (ad 17)), (1, .int (nI a)), (2, .int (nI b)), (3, .int 1), (4, .int (nI begun)), (5, .int (nI r.1)), (6, .int (nI i)), (7, .int (b2i (mWD V b a i = true))), (8, .int z)] : List (Nat × Value))) (show nI r.1 = nI (begun + (r.1 - begun)) from congrArg nI (by omega)))
            have eV : mJr V r.2.1 r.2.2 = mJr V (gapF r.2.1 (begun + (r.1 - begun)) r.1) (gapF r.2.2 (begun + (r.1 - begun)) r.1) := by rw [show begun + (r.1 - begun) = r.1 by omega, gapF_0, gapF_0]
            rw [eV] at G
            exact inner (r.1 - begun + 1) (r.1 - begun) (by omega) (by omega) rfl _ _ _ G hl
  have hl := lv_sub (l' := [(0, .ref (ad 17)), (1, .int (nI a)), (2, .int (nI b)), (3, .int 1), (4, .int (nI begun)), (5, .int (nI begun)), (6, .int 0)]) hl [2, 3, 4, 5, 6, 1, 0] rfl
  have hl := lv_cast hl (congrArg (fun z : Int32 => ([(0, .ref (ad 17)), (1, .int (nI a)), (2, .int (nI b)), (3, .int 1), (4, .int (nI begun)), (5, .int z), (6, .int 0)] : List (Nat × Value))) (show nI begun = nI ((mGa V (mWD V) a b begun 0).1) from rfl))
  have hl := lv_cast hl (congrArg (fun z : Int32 => ([(0, .ref (ad 17)), (1, .int (nI a)), (2, .int (nI b)), (3, .int 1), (4, .int (nI begun)), (5, .int (nI ((mGa V (mWD V) a b begun 0).1))), (6, .int z)] : List (Nat × Value))) (show 0 = nI 0 from rfl))
  have eV : V = mJr V (mGa V (mWD V) a b begun 0).2.1 (mGa V (mWD V) a b begun 0).2.2 := (mJr_0 V).symm
  rw [eV] at G
  exact loop_7 (cnt + 1) 0 (by omega) (by omega) _ _ _ G hl
set_option maxHeartbeats 4000000 in
set_option maxRecDepth 100000 in
theorem c_X3_gatherS (l : Launch) {D : va_G} {sh : xS} {ad : Nat → Nat} {cI : ClassId} {tys : List (ClassId × FieldType)} (M : xMm sh ad cI tys) (V : xV) (a b begun cnt : Nat) (ha : a < 8) (hb8 : b < 8) (hbg : begun ≤ 40) (hcnt : V 17 17 = nI cnt) (hc40 : cnt ≤ 40) : xMi l yX3_gather wsX3_gather (rmK 1) D sh ad tys V [.ref (ad 17), .int (nI a), .int (nI b), .int 0, .int (nI begun)] (nI (mGa V (mWS V) a b begun cnt).1) (mJr V (mGa V (mWS V) a b begun cnt).2.1 (mGa V (mWS V) a b begun cnt).2.2) := by
  refine xOfi (cc := cX3_gather) (nL := 9) (ret := some .int) (own := RX3) (by decide) rfl rfl (Nat.le_of_ble_eq_true rfl) M.2.2 ?_
  intro p e s m args below meth c A ls B G hl
  have hx := B.1.1
  have hb := B.1.2.1
  have hin : ∀ w ∈ wsX30, w ∈ wsX3_gather := by decide +kernel
  have hl : lv_has ls 9 [(0, .ref (ad 17)), (1, .int (nI a)), (2, .int (nI b)), (3, .int 0), (4, .int (nI begun))] := hl
  refine lv_iload hx hb dX3_gather_0 (lv_at hl 4 rfl) ?_
  refine lv_istore (lv' := [(5, .int (nI begun)), (0, .ref (ad 17)), (1, .int (nI a)), (2, .int (nI b)), (3, .int 0), (4, .int (nI begun))]) hx hb dX3_gather_2 hl (by decide) rfl (fun ls hl => ?_)
  refine lv_iconst (v := 0) hx hb dX3_gather_4 (by decide) ?_
  refine lv_istore (lv' := [(6, .int 0), (5, .int (nI begun)), (0, .ref (ad 17)), (1, .int (nI a)), (2, .int (nI b)), (3, .int 0), (4, .int (nI begun))]) hx hb dX3_gather_5 hl (by decide) rfl (fun ls hl => ?_)
  have loop_7 : ∀ (f i : Nat), i ≤ cnt → cnt < i + f → ∀ (H : Heap) (locs : List Loc) (ls : Array Slot), xG D sh ad A s.heap (mJr V (mGa V (mWS V) a b begun i).2.1 (mGa V (mWS V) a b begun i).2.2) H locs → lv_has ls 9 [(0, .ref (ad 17)), (1, .int (nI a)), (2, .int (nI b)), (3, .int 0), (4, .int (nI begun)), (5, .int (nI ((mGa V (mWS V) a b begun i).1))), (6, .int (nI i))] → W p l e (rmK 1) s m args below meth c H locs 0 0 (xQi below D sh ad tys A args s (nI (mGa V (mWS V) a b begun cnt).1) (mJr V (mGa V (mWS V) a b begun cnt).2.1 (mGa V (mWS V) a b begun cnt).2.2)) (F0 m 7 ls []) := by
    intro f
    induction f with
    | zero => intro i h1 h2; exact absurd h2 (by omega)
    | succ f ih_7 =>
      intro i hi hf H locs ls G hl
      refine lv_iload hx hb dX3_gather_7 (lv_at hl 6 rfl) ?_
      refine lv_aload_n hx hb dX3_gather_9 rfl (lv_at hl 0 rfl) ?_
      refine m_getI B G M hin 17 (by decide) (by decide +kernel) dX3_gather_10 ?_
      refine x_top (show _ = nI cnt from (by rw [mJr_o _ _ _ (by decide) (by decide)]; exact hcnt)) ?_
      refine lv_icmp_ge (tgt := 146) hx hb dX3_gather_13 (by decide) (fun c_13 => ?_) (fun c_13 => ?_)
      · skip
        have c_13 : cnt ≤ i := (nI_leI (a := cnt) (b := i) (by omega) (by omega)).mp c_13
        refine lv_iload hx hb dX3_gather_146 (lv_at hl 5 rfl) ?_
        exact x_iret B G (by rw [show i = cnt by omega]) (by rw [show i = cnt by omega]) dX3_gather_148
      · skip
        have c_13 : ¬ (cnt ≤ i) := fun h9 => c_13 ((nI_leI (a := cnt) (b := i) (by omega) (by omega)).mpr h9)
        have hn_i := mGa_n V (mWS V) a b begun i
        have hj_i := jOk_ga (P := mWS V) (a := a) (b := b) i (by omega) (Nat.le_refl begun) (V := V) (fun j h1 h2 => absurd h1 (by have h2 : j < begun := h2; omega))
        obtain ⟨r, er⟩ : ∃ r, r = mGa V (mWS V) a b begun i := ⟨_, rfl⟩
        rw [← er] at G hl hn_i hj_i
        refine lv_aload_n hx hb dX3_gather_16 rfl (lv_at hl 0 rfl) ?_
        refine lv_iload_n hx hb dX3_gather_17 rfl (lv_at hl 2 rfl) ?_
        refine lv_iload_n hx hb dX3_gather_18 rfl (lv_at hl 1 rfl) ?_
        refine lv_iload hx hb dX3_gather_19 (lv_at hl 6 rfl) ?_
        refine lv_iload_n hx hb dX3_gather_21 rfl (lv_at hl 3 rfl) ?_
        refine x_callVi (rest := []) B G (c_X3_wantsS l M (mJr V r.2.1 r.2.2) b a i (by omega) (by omega) (by omega)) (cwV 4 B.1.2.2.2.2 gX3_gather_X3_wants rfl rfl rfl (by decide +kernel) ⟨Nat.le_of_ble_eq_true rfl, Nat.le_of_ble_eq_true rfl⟩) (m_recv B G M) rfl hl.1 rfl (Nat.le_of_ble_eq_true rfl) ⟨Nat.zero_le _, Nat.zero_le _⟩ dX3_gather_22 (fun H locs G => ?_)
        refine lv_istore (lv' := [(7, .int (b2i (mWS V b a i = true))), (0, .ref (ad 17)), (1, .int (nI a)), (2, .int (nI b)), (3, .int 0), (4, .int (nI begun)), (5, .int (nI r.1)), (6, .int (nI i))]) hx hb dX3_gather_25 hl (by decide) rfl (fun ls hl => ?_)
        refine lv_iload hx hb dX3_gather_27 (lv_at hl 0 rfl) ?_
        refine lv_if_ne (tgt := 44) hx hb dX3_gather_29 (by decide) (fun c_29 => ?_) (fun c_29 => ?_)
        · skip
          refine lv_iload hx hb dX3_gather_44 (lv_at hl 6 rfl) ?_
          refine lv_istore (lv' := [(8, .int (nI r.1)), (7, .int (b2i (mWS V b a i = true))), (0, .ref (ad 17)), (1, .int (nI a)), (2, .int (nI b)), (3, .int 0), (4, .int (nI begun)), (5, .int (nI r.1)), (6, .int (nI i))]) hx hb dX3_gather_46 hl (by decide) rfl (fun ls hl => ?_)
          have inner : ∀ (f q : Nat), q < f → q ≤ r.1 - begun → insP V i begun r.2.1 q = insP V i begun r.2.1 (r.1 - begun) → ∀ (H : Heap) (locs : List Loc) (ls : Array Slot), xG D sh ad A s.heap (mJr V (gapF r.2.1 (begun + q) r.1) (gapF r.2.2 (begun + q) r.1)) H locs → lv_has ls 9 [(0, .ref (ad 17)), (1, .int (nI a)), (2, .int (nI b)), (3, .int 0), (4, .int (nI begun)), (5, .int (nI r.1)), (6, .int (nI i)), (7, .int (b2i (mWS V b a i = true))), (8, .int (nI (begun + q)))] → W p l e (rmK 1) s m args below meth c H locs 0 0 (xQi below D sh ad tys A args s (nI (mGa V (mWS V) a b begun cnt).1) (mJr V (mGa V (mWS V) a b begun cnt).2.1 (mGa V (mWS V) a b begun cnt).2.2)) (F0 m 48 ls []) := by
            intro f
            induction f with
            | zero => intro q h1; exact absurd h1 (by omega)
            | succ f ih_48 =>
              intro q hq hq2 hpq H locs ls G hl
              refine lv_iload hx hb dX3_gather_48 (lv_at hl 8 rfl) ?_
              refine lv_iload hx hb dX3_gather_50 (lv_at hl 4 rfl) ?_
              refine lv_icmp_le (tgt := 111) hx hb dX3_gather_52 (by decide) (fun c_52 => ?_) (fun c_52 => ?_)
              · skip
                have c_52 : (begun + q) ≤ begun := (nI_leI (a := (begun + q)) (b := begun) (by omega) (by omega)).mp c_52
                have ep : insP V i begun r.2.1 (r.1 - begun) = begun + q := by rw [← hpq, show q = 0 by omega]; rfl
                refine lv_aload_n hx hb dX3_gather_111 rfl (lv_at hl 0 rfl) ?_
                refine m_getA B G M hin 13 (by decide) (by decide +kernel) dX3_gather_112 ?_
                refine lv_iload hx hb dX3_gather_115 (lv_at hl 8 rfl) ?_
                refine lv_iload hx hb dX3_gather_117 (lv_at hl 6 rfl) ?_
                refine m_ast B G M 13 (by decide) (begun + q) (show (begun + q) < 80 by omega) rfl dX3_gather_119 (fun H locs G => ?_)
                refine lv_aload_n hx hb dX3_gather_120 rfl (lv_at hl 0 rfl) ?_
                refine m_getA B G M hin 14 (by decide) (by decide +kernel) dX3_gather_121 ?_
                refine lv_iload hx hb dX3_gather_124 (lv_at hl 8 rfl) ?_
                refine lv_iload hx hb dX3_gather_126 (lv_at hl 7 rfl) ?_
                refine lv_if_eq (tgt := 135) hx hb dX3_gather_128 (by decide) (fun c_128 => ?_) (fun c_128 => ?_)
                · exact False.elim (c_29 c_128)
                · skip
                  refine lv_iload_n hx hb dX3_gather_131 rfl (lv_at hl 2 rfl) ?_
                  refine lv_goto (tgt := 136) hx hb dX3_gather_132 (by decide) ?_
                  refine m_ast B G M 14 (by decide) (begun + q) (show (begun + q) < 80 by omega) rfl dX3_gather_136 (fun H locs G => ?_)
                  refine lv_iinc (v := nI (r.1 + 1)) (lv' := [(5, .int (nI (r.1 + 1))), (0, .ref (ad 17)), (1, .int (nI a)), (2, .int (nI b)), (3, .int 0), (4, .int (nI begun)), (6, .int (nI i)), (7, .int (b2i (mWS V b a i = true))), (8, .int (nI (begun + q)))]) hx hb dX3_gather_137 hl (k := 5) rfl (nI_add r.1 1) (by decide) rfl (fun ls hl => ?_)
                  have eW : xu (xu (mJr V (gapF r.2.1 (begun + q) r.1) (gapF r.2.2 (begun + q) r.1)) 13 (begun + q) (nI i)) 14 (begun + q) (nI b) = mJr V (mIns V i begun (nI b) r).2.1 (mIns V i begun (nI b) r).2.2 := by rw [mJr_13, mJr_14, gapF_e, gapF_e]; unfold mIns; rw [ep]
                  rw [eW, er] at G
                  rw [er] at hl
                  refine lv_iinc (v := nI (i + 1)) (lv' := [(6, .int (nI (i + 1))), (5, .int (nI ((mGa V (mWS V) a b begun i).1 + 1))), (0, .ref (ad 17)), (1, .int (nI a)), (2, .int (nI b)), (3, .int 0), (4, .int (nI begun)), (7, .int (b2i (mWS V b a i = true))), (8, .int (nI (begun + q)))]) hx hb dX3_gather_140 hl (k := 6) rfl (nI_add i 1) (by decide) rfl (fun ls hl => ?_)
                  refine lv_goto (tgt := 7) hx hb dX3_gather_143 (by decide) ?_
                  have hl := lv_sub (l' := [(0, .ref (ad 17)), (1, .int (nI a)), (2, .int (nI b)), (3, .int 0), (4, .int (nI begun)), (5, .int (nI ((mGa V (mWS V) a b begun i).1 + 1))), (6, .int (nI (i + 1)))]) hl [2, 3, 4, 5, 6, 1, 0] rfl
                  have hl := lv_cast hl (congrArg (fun z : Int32 => ([(0, .ref (ad 17)), (1, .int (nI a)), (2, .int (nI b)), (3, .int 0), (4, .int (nI begun)), (5, .int z), (6, .int (nI (i + 1)))] : List (Nat × Value))) (show nI ((mGa V (mWS V) a b begun i).1 + 1) = nI ((mGa V (mWS V) a b begun (i + 1)).1) from (congrArg (fun z : Nat × (Nat → Int32) × (Nat → Int32) => nI z.1) (mGa_b (P := mWS V) (b2i_1 c_29))).symm))
                  have eV : mJr V (mIns V i begun (nI b) (mGa V (mWS V) a b begun i)).2.1 (mIns V i begun (nI b) (mGa V (mWS V) a b begun i)).2.2 = mJr V (mGa V (mWS V) a b begun (i + 1)).2.1 (mGa V (mWS V) a b begun (i + 1)).2.2 := (congrArg (fun z : Nat × (Nat → Int32) × (Nat → Int32) => mJr V z.2.1 z.2.2) (mGa_b (P := mWS V) (b2i_1 c_29))).symm
                  rw [eV] at G
                  exact ih_7 (i + 1) (by omega) (by omega) _ _ _ G hl
              · skip
                have c_52 : ¬ ((begun + q) ≤ begun) := fun h9 => c_52 ((nI_leI (a := (begun + q)) (b := begun) (by omega) (by omega)).mpr h9)
                refine lv_aload_n hx hb dX3_gather_55 rfl (lv_at hl 0 rfl) ?_
                refine lv_iload hx hb dX3_gather_56 (lv_at hl 6 rfl) ?_
                refine lv_aload_n hx hb dX3_gather_58 rfl (lv_at hl 0 rfl) ?_
                refine m_getA B G M hin 13 (by decide) (by decide +kernel) dX3_gather_59 ?_
                refine lv_iload hx hb dX3_gather_62 (lv_at hl 8 rfl) ?_
                refine lv_iconst (v := 1) hx hb dX3_gather_64 (by decide) ?_
                refine lv_isub hx hb dX3_gather_65 ?_
                refine x_top (show (nI (begun + q)) - 1 = nI (begun + q - 1) from pk_sub (a := begun + q) (b := 1) (by omega)) ?_
                have jq := (hj_i (begun + q - 1) (by omega) (by omega)).1
                refine m_ald B G M 13 (by decide) (begun + q - 1) (show (begun + q - 1) < 80 by omega) rfl dX3_gather_66 ?_
                refine x_top (show _ = nI (r.2.1 (begun + q - 1)).toNatClampNeg from ((show mJr V (gapF r.2.1 (begun + q) r.1) (gapF r.2.2 (begun + q) r.1) 13 (begun + q - 1) = r.2.1 (begun + q - 1) from gapF_at _ (by omega)).trans jq.1)) ?_
                refine x_callVi (rest := []) B G (c_X3_precedes l M (mJr V (gapF r.2.1 (begun + q) r.1) (gapF r.2.2 (begun + q) r.1)) i ((r.2.1 (begun + q - 1)).toNatClampNeg) (by omega) jq.2) (cwV 2 B.1.2.2.2.2 gX3_gather_X3_precedes rfl rfl rfl (by decide +kernel) ⟨Nat.le_of_ble_eq_true rfl, Nat.le_of_ble_eq_true rfl⟩) (m_recv B G M) rfl hl.1 rfl (Nat.le_of_ble_eq_true rfl) ⟨Nat.zero_le _, Nat.zero_le _⟩ dX3_gather_67 (fun H locs G => ?_)
                refine lv_if_eq (tgt := 111) hx hb dX3_gather_70 (by decide) (fun c_70 => ?_) (fun c_70 => ?_)
                · skip
                  have ep : insP V i begun r.2.1 (r.1 - begun) = begun + q := by rw [← hpq]; exact insP_f (V := V) (by omega) (b2i_0.mp c_70)
                  refine lv_aload_n hx hb dX3_gather_111 rfl (lv_at hl 0 rfl) ?_
                  refine m_getA B G M hin 13 (by decide) (by decide +kernel) dX3_gather_112 ?_
                  refine lv_iload hx hb dX3_gather_115 (lv_at hl 8 rfl) ?_
                  refine lv_iload hx hb dX3_gather_117 (lv_at hl 6 rfl) ?_
                  refine m_ast B G M 13 (by decide) (begun + q) (show (begun + q) < 80 by omega) rfl dX3_gather_119 (fun H locs G => ?_)
                  refine lv_aload_n hx hb dX3_gather_120 rfl (lv_at hl 0 rfl) ?_
                  refine m_getA B G M hin 14 (by decide) (by decide +kernel) dX3_gather_121 ?_
                  refine lv_iload hx hb dX3_gather_124 (lv_at hl 8 rfl) ?_
                  refine lv_iload hx hb dX3_gather_126 (lv_at hl 7 rfl) ?_
                  refine lv_if_eq (tgt := 135) hx hb dX3_gather_128 (by decide) (fun c_128 => ?_) (fun c_128 => ?_)
                  · exact False.elim (c_29 c_128)
                  · skip
                    refine lv_iload_n hx hb dX3_gather_131 rfl (lv_at hl 2 rfl) ?_
                    refine lv_goto (tgt := 136) hx hb dX3_gather_132 (by decide) ?_
                    refine m_ast B G M 14 (by decide) (begun + q) (show (begun + q) < 80 by omega) rfl dX3_gather_136 (fun H locs G => ?_)
                    refine lv_iinc (v := nI (r.1 + 1)) (lv' := [(5, .int (nI (r.1 + 1))), (0, .ref (ad 17)), (1, .int (nI a)), (2, .int (nI b)), (3, .int 0), (4, .int (nI begun)), (6, .int (nI i)), (7, .int (b2i (mWS V b a i = true))), (8, .int (nI (begun + q)))]) hx hb dX3_gather_137 hl (k := 5) rfl (nI_add r.1 1) (by decide) rfl (fun ls hl => ?_)
                    have eW : xu (xu (mJr V (gapF r.2.1 (begun + q) r.1) (gapF r.2.2 (begun + q) r.1)) 13 (begun + q) (nI i)) 14 (begun + q) (nI b) = mJr V (mIns V i begun (nI b) r).2.1 (mIns V i begun (nI b) r).2.2 := by rw [mJr_13, mJr_14, gapF_e, gapF_e]; unfold mIns; rw [ep]
                    rw [eW, er] at G
                    rw [er] at hl
                    refine lv_iinc (v := nI (i + 1)) (lv' := [(6, .int (nI (i + 1))), (5, .int (nI ((mGa V (mWS V) a b begun i).1 + 1))), (0, .ref (ad 17)), (1, .int (nI a)), (2, .int (nI b)), (3, .int 0), (4, .int (nI begun)), (7, .int (b2i (mWS V b a i = true))), (8, .int (nI (begun + q)))]) hx hb dX3_gather_140 hl (k := 6) rfl (nI_add i 1) (by decide) rfl (fun ls hl => ?_)
                    refine lv_goto (tgt := 7) hx hb dX3_gather_143 (by decide) ?_
                    have hl := lv_sub (l' := [(0, .ref (ad 17)), (1, .int (nI a)), (2, .int (nI b)), (3, .int 0), (4, .int (nI begun)), (5, .int (nI ((mGa V (mWS V) a b begun i).1 + 1))), (6, .int (nI (i + 1)))]) hl [2, 3, 4, 5, 6, 1, 0] rfl
                    have hl := lv_cast hl (congrArg (fun z : Int32 => ([(0, .ref (ad 17)), (1, .int (nI a)), (2, .int (nI b)), (3, .int 0), (4, .int (nI begun)), (5, .int z), (6, .int (nI (i + 1)))] : List (Nat × Value))) (show nI ((mGa V (mWS V) a b begun i).1 + 1) = nI ((mGa V (mWS V) a b begun (i + 1)).1) from (congrArg (fun z : Nat × (Nat → Int32) × (Nat → Int32) => nI z.1) (mGa_b (P := mWS V) (b2i_1 c_29))).symm))
                    have eV : mJr V (mIns V i begun (nI b) (mGa V (mWS V) a b begun i)).2.1 (mIns V i begun (nI b) (mGa V (mWS V) a b begun i)).2.2 = mJr V (mGa V (mWS V) a b begun (i + 1)).2.1 (mGa V (mWS V) a b begun (i + 1)).2.2 := (congrArg (fun z : Nat × (Nat → Int32) × (Nat → Int32) => mJr V z.2.1 z.2.2) (mGa_b (P := mWS V) (b2i_1 c_29))).symm
                    rw [eV] at G
                    exact ih_7 (i + 1) (by omega) (by omega) _ _ _ G hl
                · skip
                  refine lv_aload_n hx hb dX3_gather_73 rfl (lv_at hl 0 rfl) ?_
                  refine m_getA B G M hin 13 (by decide) (by decide +kernel) dX3_gather_74 ?_
                  refine lv_iload hx hb dX3_gather_77 (lv_at hl 8 rfl) ?_
                  refine lv_aload_n hx hb dX3_gather_79 rfl (lv_at hl 0 rfl) ?_
                  refine m_getA B G M hin 13 (by decide) (by decide +kernel) dX3_gather_80 ?_
                  refine lv_iload hx hb dX3_gather_83 (lv_at hl 8 rfl) ?_
                  refine lv_iconst (v := 1) hx hb dX3_gather_85 (by decide) ?_
                  refine lv_isub hx hb dX3_gather_86 ?_
                  refine x_top (show (nI (begun + q)) - 1 = nI (begun + q - 1) from pk_sub (a := begun + q) (b := 1) (by omega)) ?_
                  refine m_ald B G M 13 (by decide) (begun + q - 1) (show (begun + q - 1) < 80 by omega) rfl dX3_gather_87 ?_
                  refine m_ast B G M 13 (by decide) (begun + q) (show (begun + q) < 80 by omega) rfl dX3_gather_88 (fun H locs G => ?_)
                  refine lv_aload_n hx hb dX3_gather_89 rfl (lv_at hl 0 rfl) ?_
                  refine m_getA B G M hin 14 (by decide) (by decide +kernel) dX3_gather_90 ?_
                  refine lv_iload hx hb dX3_gather_93 (lv_at hl 8 rfl) ?_
                  refine lv_aload_n hx hb dX3_gather_95 rfl (lv_at hl 0 rfl) ?_
                  refine m_getA B G M hin 14 (by decide) (by decide +kernel) dX3_gather_96 ?_
                  refine lv_iload hx hb dX3_gather_99 (lv_at hl 8 rfl) ?_
                  refine lv_iconst (v := 1) hx hb dX3_gather_101 (by decide) ?_
                  refine lv_isub hx hb dX3_gather_102 ?_
                  refine x_top (show (nI (begun + q)) - 1 = nI (begun + q - 1) from pk_sub (a := begun + q) (b := 1) (by omega)) ?_
                  refine m_ald B G M 14 (by decide) (begun + q - 1) (show (begun + q - 1) < 80 by omega) rfl dX3_gather_103 ?_
                  refine m_ast B G M 14 (by decide) (begun + q) (show (begun + q) < 80 by omega) rfl dX3_gather_104 (fun H locs G => ?_)
                  refine lv_iinc (v := nI (begun + q - 1)) (lv' := [(8, .int (nI (begun + q - 1))), (0, .ref (ad 17)), (1, .int (nI a)), (2, .int (nI b)), (3, .int 0), (4, .int (nI begun)), (5, .int (nI r.1)), (6, .int (nI i)), (7, .int (b2i (mWS V b a i = true)))]) hx hb dX3_gather_105 hl (k := 8) rfl ((by have z := pk_m1 (begun + q - 1); rw [show begun + q - 1 + 1 = begun + q by omega] at z; exact z)) (by decide) rfl (fun ls hl => ?_)
                  refine lv_goto (tgt := 48) hx hb dX3_gather_108 (by decide) ?_
                  have hl := lv_sub (l' := [(0, .ref (ad 17)), (1, .int (nI a)), (2, .int (nI b)), (3, .int 0), (4, .int (nI begun)), (5, .int (nI r.1)), (6, .int (nI i)), (7, .int (b2i (mWS V b a i = true))), (8, .int (nI (begun + q - 1)))]) hl [1, 2, 3, 4, 5, 6, 7, 8, 0] rfl
                  have hl := lv_cast hl (congrArg (fun z : Int32 => ([(0, .ref (ad 17)), (1, .int (nI a)), (2, .int (nI b)), (3, .int 0), (4, .int (nI begun)), (5, .int (nI r.1)), (6, .int (nI i)), (7, .int (b2i (mWS V b a i = true))), (8, .int z)] : List (Nat × Value))) (show nI (begun + q - 1) = nI (begun + (q - 1)) from congrArg nI (by omega)))
                  have eV : xu (xu (mJr V (gapF r.2.1 (begun + q) r.1) (gapF r.2.2 (begun + q) r.1)) 13 (begun + q) ((mJr V (gapF r.2.1 (begun + q) r.1) (gapF r.2.2 (begun + q) r.1)) 13 (begun + q - 1))) 14 (begun + q) ((xu (mJr V (gapF r.2.1 (begun + q) r.1) (gapF r.2.2 (begun + q) r.1)) 13 (begun + q) ((mJr V (gapF r.2.1 (begun + q) r.1) (gapF r.2.2 (begun + q) r.1)) 13 (begun + q - 1))) 14 (begun + q - 1)) = mJr V (gapF r.2.1 (begun + (q - 1)) r.1) (gapF r.2.2 (begun + (q - 1)) r.1) := by rw [mJr_13]; show xu (mJr _ _ _) 14 _ (gapF r.2.2 (begun + q) r.1 (begun + q - 1)) = _; rw [mJr_14]; show mJr V (upd _ _ (gapF r.2.1 (begun + q) r.1 (begun + q - 1))) _ = _; rw [gapF_s _ (by omega) (by omega), gapF_s _ (by omega) (by omega), show begun + q - 1 = begun + (q - 1) by omega]
                  rw [eV] at G
                  exact ih_48 (q - 1) (by omega) (by omega) ((insP_t (V := V) (by omega) (b2i_1 c_70)).symm.trans hpq) _ _ _ G hl
          have hl := lv_sub (l' := [(0, .ref (ad 17)), (1, .int (nI a)), (2, .int (nI b)), (3, .int 0), (4, .int (nI begun)), (5, .int (nI r.1)), (6, .int (nI i)), (7, .int (b2i (mWS V b a i = true))), (8, .int (nI r.1))]) hl [2, 3, 4, 5, 6, 7, 8, 1, 0] rfl
          have hl := lv_cast hl (congrArg (fun z : Int32 => ([(0, .ref (ad 17)), (1, .int (nI a)), (2, .int (nI b)), (3, .int 0), (4, .int (nI begun)), (5, .int (nI r.1)), (6, .int (nI i)), (7, .int (b2i (mWS V b a i = true))), (8, .int z)] : List (Nat × Value))) (show nI r.1 = nI (begun + (r.1 - begun)) from congrArg nI (by omega)))
          have eV : mJr V r.2.1 r.2.2 = mJr V (gapF r.2.1 (begun + (r.1 - begun)) r.1) (gapF r.2.2 (begun + (r.1 - begun)) r.1) := by rw [show begun + (r.1 - begun) = r.1 by omega, gapF_0, gapF_0]
          rw [eV] at G
          exact inner (r.1 - begun + 1) (r.1 - begun) (by omega) (by omega) rfl _ _ _ G hl
        · skip
          refine lv_aload_n hx hb dX3_gather_32 rfl (lv_at hl 1 rfl) ?_
          refine lv_iload_n hx hb dX3_gather_33 rfl (lv_at hl 2 rfl) ?_
          refine lv_iload_n hx hb dX3_gather_34 rfl (lv_at hl 3 rfl) ?_
          refine lv_iload hx hb dX3_gather_35 (lv_at hl 7 rfl) ?_
          refine lv_iload_n hx hb dX3_gather_37 rfl (lv_at hl 4 rfl) ?_
          refine x_callVi (rest := []) B G (c_X3_wantsS l M (mJr V r.2.1 r.2.2) a b i (by omega) (by omega) (by omega)) (cwV 4 B.1.2.2.2.2 gX3_gather_X3_wants rfl rfl rfl (by decide +kernel) ⟨Nat.le_of_ble_eq_true rfl, Nat.le_of_ble_eq_true rfl⟩) (m_recv B G M) rfl hl.1 rfl (Nat.le_of_ble_eq_true rfl) ⟨Nat.zero_le _, Nat.zero_le _⟩ dX3_gather_38 (fun H locs G => ?_)
          refine lv_if_eq (tgt := 140) hx hb dX3_gather_41 (by decide) (fun c_41 => ?_) (fun c_41 => ?_)
          · skip
            rw [er] at G hl
            refine lv_iinc (v := nI (i + 1)) (lv' := [(6, .int (nI (i + 1))), (7, .int (b2i (mWS V b a i = true))), (0, .ref (ad 17)), (1, .int (nI a)), (2, .int (nI b)), (3, .int 0), (4, .int (nI begun)), (5, .int (nI ((mGa V (mWS V) a b begun i).1)))]) hx hb dX3_gather_140 hl (k := 7) rfl (nI_add i 1) (by decide) rfl (fun ls hl => ?_)
            refine lv_goto (tgt := 7) hx hb dX3_gather_143 (by decide) ?_
            have hl := lv_sub (l' := [(0, .ref (ad 17)), (1, .int (nI a)), (2, .int (nI b)), (3, .int 0), (4, .int (nI begun)), (5, .int (nI ((mGa V (mWS V) a b begun i).1))), (6, .int (nI (i + 1)))]) hl [2, 3, 4, 5, 6, 7, 0] rfl
            have hl := lv_cast hl (congrArg (fun z : Int32 => ([(0, .ref (ad 17)), (1, .int (nI a)), (2, .int (nI b)), (3, .int 0), (4, .int (nI begun)), (5, .int z), (6, .int (nI (i + 1)))] : List (Nat × Value))) (show nI ((mGa V (mWS V) a b begun i).1) = nI ((mGa V (mWS V) a b begun (i + 1)).1) from (congrArg (fun z : Nat × (Nat → Int32) × (Nat → Int32) => nI z.1) (mGa_0 (P := mWS V) (b2i_0.mp c_29) (b2i_0.mp c_41))).symm))
            have eV : mJr V (mGa V (mWS V) a b begun i).2.1 (mGa V (mWS V) a b begun i).2.2 = mJr V (mGa V (mWS V) a b begun (i + 1)).2.1 (mGa V (mWS V) a b begun (i + 1)).2.2 := (congrArg (fun z : Nat × (Nat → Int32) × (Nat → Int32) => mJr V z.2.1 z.2.2) (mGa_0 (P := mWS V) (b2i_0.mp c_29) (b2i_0.mp c_41))).symm
            rw [eV] at G
            exact ih_7 (i + 1) (by omega) (by omega) _ _ _ G hl
          · skip
            refine lv_iload hx hb dX3_gather_44 (lv_at hl 6 rfl) ?_
            refine lv_istore (lv' := [(8, .int (nI r.1)), (7, .int (b2i (mWS V b a i = true))), (0, .ref (ad 17)), (1, .int (nI a)), (2, .int (nI b)), (3, .int 0), (4, .int (nI begun)), (5, .int (nI r.1)), (6, .int (nI i))]) hx hb dX3_gather_46 hl (by decide) rfl (fun ls hl => ?_)
            have inner : ∀ (f q : Nat), q < f → q ≤ r.1 - begun → insP V i begun r.2.1 q = insP V i begun r.2.1 (r.1 - begun) → ∀ (H : Heap) (locs : List Loc) (ls : Array Slot), xG D sh ad A s.heap (mJr V (gapF r.2.1 (begun + q) r.1) (gapF r.2.2 (begun + q) r.1)) H locs → lv_has ls 9 [(0, .ref (ad 17)), (1, .int (nI a)), (2, .int (nI b)), (3, .int 0), (4, .int (nI begun)), (5, .int (nI r.1)), (6, .int (nI i)), (7, .int (b2i (mWS V b a i = true))), (8, .int (nI (begun + q)))] → W p l e (rmK 1) s m args below meth c H locs 0 0 (xQi below D sh ad tys A args s (nI (mGa V (mWS V) a b begun cnt).1) (mJr V (mGa V (mWS V) a b begun cnt).2.1 (mGa V (mWS V) a b begun cnt).2.2)) (F0 m 48 ls []) := by
              intro f
              induction f with
              | zero => intro q h1; exact absurd h1 (by omega)
              | succ f ih_48 =>
                intro q hq hq2 hpq H locs ls G hl
                refine lv_iload hx hb dX3_gather_48 (lv_at hl 8 rfl) ?_
                refine lv_iload hx hb dX3_gather_50 (lv_at hl 4 rfl) ?_
                refine lv_icmp_le (tgt := 111) hx hb dX3_gather_52 (by decide) (fun c_52 => ?_) (fun c_52 => ?_)
                · skip
                  have c_52 : (begun + q) ≤ begun := (nI_leI (a := (begun + q)) (b := begun) (by omega) (by omega)).mp c_52
                  have ep : insP V i begun r.2.1 (r.1 - begun) = begun + q := by rw [← hpq, show q = 0 by omega]; rfl
                  refine lv_aload_n hx hb dX3_gather_111 rfl (lv_at hl 0 rfl) ?_
                  refine m_getA B G M hin 13 (by decide) (by decide +kernel) dX3_gather_112 ?_
                  refine lv_iload hx hb dX3_gather_115 (lv_at hl 8 rfl) ?_
                  refine lv_iload hx hb dX3_gather_117 (lv_at hl 6 rfl) ?_
                  refine m_ast B G M 13 (by decide) (begun + q) (show (begun + q) < 80 by omega) rfl dX3_gather_119 (fun H locs G => ?_)
                  refine lv_aload_n hx hb dX3_gather_120 rfl (lv_at hl 0 rfl) ?_
                  refine m_getA B G M hin 14 (by decide) (by decide +kernel) dX3_gather_121 ?_
                  refine lv_iload hx hb dX3_gather_124 (lv_at hl 8 rfl) ?_
                  refine lv_iload hx hb dX3_gather_126 (lv_at hl 7 rfl) ?_
                  refine lv_if_eq (tgt := 135) hx hb dX3_gather_128 (by decide) (fun c_128 => ?_) (fun c_128 => ?_)
                  · skip
                    refine lv_iload_n hx hb dX3_gather_135 rfl (lv_at hl 1 rfl) ?_
                    refine m_ast B G M 14 (by decide) (begun + q) (show (begun + q) < 80 by omega) rfl dX3_gather_136 (fun H locs G => ?_)
                    refine lv_iinc (v := nI (r.1 + 1)) (lv' := [(5, .int (nI (r.1 + 1))), (0, .ref (ad 17)), (1, .int (nI a)), (2, .int (nI b)), (3, .int 0), (4, .int (nI begun)), (6, .int (nI i)), (7, .int (b2i (mWS V b a i = true))), (8, .int (nI (begun + q)))]) hx hb dX3_gather_137 hl (k := 5) rfl (nI_add r.1 1) (by decide) rfl (fun ls hl => ?_)
                    have eW : xu (xu (mJr V (gapF r.2.1 (begun + q) r.1) (gapF r.2.2 (begun + q) r.1)) 13 (begun + q) (nI i)) 14 (begun + q) (nI a) = mJr V (mIns V i begun (nI a) r).2.1 (mIns V i begun (nI a) r).2.2 := by rw [mJr_13, mJr_14, gapF_e, gapF_e]; unfold mIns; rw [ep]
                    rw [eW, er] at G
                    rw [er] at hl
                    refine lv_iinc (v := nI (i + 1)) (lv' := [(6, .int (nI (i + 1))), (5, .int (nI ((mGa V (mWS V) a b begun i).1 + 1))), (0, .ref (ad 17)), (1, .int (nI a)), (2, .int (nI b)), (3, .int 0), (4, .int (nI begun)), (7, .int (b2i (mWS V b a i = true))), (8, .int (nI (begun + q)))]) hx hb dX3_gather_140 hl (k := 6) rfl (nI_add i 1) (by decide) rfl (fun ls hl => ?_)
                    refine lv_goto (tgt := 7) hx hb dX3_gather_143 (by decide) ?_
                    have hl := lv_sub (l' := [(0, .ref (ad 17)), (1, .int (nI a)), (2, .int (nI b)), (3, .int 0), (4, .int (nI begun)), (5, .int (nI ((mGa V (mWS V) a b begun i).1 + 1))), (6, .int (nI (i + 1)))]) hl [2, 3, 4, 5, 6, 1, 0] rfl
                    have hl := lv_cast hl (congrArg (fun z : Int32 => ([(0, .ref (ad 17)), (1, .int (nI a)), (2, .int (nI b)), (3, .int 0), (4, .int (nI begun)), (5, .int z), (6, .int (nI (i + 1)))] : List (Nat × Value))) (show nI ((mGa V (mWS V) a b begun i).1 + 1) = nI ((mGa V (mWS V) a b begun (i + 1)).1) from (congrArg (fun z : Nat × (Nat → Int32) × (Nat → Int32) => nI z.1) (mGa_a (P := mWS V) (b2i_0.mp c_29) (b2i_1 c_41))).symm))
                    have eV : mJr V (mIns V i begun (nI a) (mGa V (mWS V) a b begun i)).2.1 (mIns V i begun (nI a) (mGa V (mWS V) a b begun i)).2.2 = mJr V (mGa V (mWS V) a b begun (i + 1)).2.1 (mGa V (mWS V) a b begun (i + 1)).2.2 := (congrArg (fun z : Nat × (Nat → Int32) × (Nat → Int32) => mJr V z.2.1 z.2.2) (mGa_a (P := mWS V) (b2i_0.mp c_29) (b2i_1 c_41))).symm
                    rw [eV] at G
                    exact ih_7 (i + 1) (by omega) (by omega) _ _ _ G hl
                  · exact False.elim (c_128 c_29)
                · skip
                  have c_52 : ¬ ((begun + q) ≤ begun) := fun h9 => c_52 ((nI_leI (a := (begun + q)) (b := begun) (by omega) (by omega)).mpr h9)
                  refine lv_aload_n hx hb dX3_gather_55 rfl (lv_at hl 0 rfl) ?_
                  refine lv_iload hx hb dX3_gather_56 (lv_at hl 6 rfl) ?_
                  refine lv_aload_n hx hb dX3_gather_58 rfl (lv_at hl 0 rfl) ?_
                  refine m_getA B G M hin 13 (by decide) (by decide +kernel) dX3_gather_59 ?_
                  refine lv_iload hx hb dX3_gather_62 (lv_at hl 8 rfl) ?_
                  refine lv_iconst (v := 1) hx hb dX3_gather_64 (by decide) ?_
                  refine lv_isub hx hb dX3_gather_65 ?_
                  refine x_top (show (nI (begun + q)) - 1 = nI (begun + q - 1) from pk_sub (a := begun + q) (b := 1) (by omega)) ?_
                  have jq := (hj_i (begun + q - 1) (by omega) (by omega)).1
                  refine m_ald B G M 13 (by decide) (begun + q - 1) (show (begun + q - 1) < 80 by omega) rfl dX3_gather_66 ?_
                  refine x_top (show _ = nI (r.2.1 (begun + q - 1)).toNatClampNeg from ((show mJr V (gapF r.2.1 (begun + q) r.1) (gapF r.2.2 (begun + q) r.1) 13 (begun + q - 1) = r.2.1 (begun + q - 1) from gapF_at _ (by omega)).trans jq.1)) ?_
                  refine x_callVi (rest := []) B G (c_X3_precedes l M (mJr V (gapF r.2.1 (begun + q) r.1) (gapF r.2.2 (begun + q) r.1)) i ((r.2.1 (begun + q - 1)).toNatClampNeg) (by omega) jq.2) (cwV 2 B.1.2.2.2.2 gX3_gather_X3_precedes rfl rfl rfl (by decide +kernel) ⟨Nat.le_of_ble_eq_true rfl, Nat.le_of_ble_eq_true rfl⟩) (m_recv B G M) rfl hl.1 rfl (Nat.le_of_ble_eq_true rfl) ⟨Nat.zero_le _, Nat.zero_le _⟩ dX3_gather_67 (fun H locs G => ?_)
                  refine lv_if_eq (tgt := 111) hx hb dX3_gather_70 (by decide) (fun c_70 => ?_) (fun c_70 => ?_)
                  · skip
                    have ep : insP V i begun r.2.1 (r.1 - begun) = begun + q := by rw [← hpq]; exact insP_f (V := V) (by omega) (b2i_0.mp c_70)
                    refine lv_aload_n hx hb dX3_gather_111 rfl (lv_at hl 0 rfl) ?_
                    refine m_getA B G M hin 13 (by decide) (by decide +kernel) dX3_gather_112 ?_
                    refine lv_iload hx hb dX3_gather_115 (lv_at hl 8 rfl) ?_
                    refine lv_iload hx hb dX3_gather_117 (lv_at hl 6 rfl) ?_
                    refine m_ast B G M 13 (by decide) (begun + q) (show (begun + q) < 80 by omega) rfl dX3_gather_119 (fun H locs G => ?_)
                    refine lv_aload_n hx hb dX3_gather_120 rfl (lv_at hl 0 rfl) ?_
                    refine m_getA B G M hin 14 (by decide) (by decide +kernel) dX3_gather_121 ?_
                    refine lv_iload hx hb dX3_gather_124 (lv_at hl 8 rfl) ?_
                    refine lv_iload hx hb dX3_gather_126 (lv_at hl 7 rfl) ?_
                    refine lv_if_eq (tgt := 135) hx hb dX3_gather_128 (by decide) (fun c_128 => ?_) (fun c_128 => ?_)
                    · skip
                      refine lv_iload_n hx hb dX3_gather_135 rfl (lv_at hl 1 rfl) ?_
                      refine m_ast B G M 14 (by decide) (begun + q) (show (begun + q) < 80 by omega) rfl dX3_gather_136 (fun H locs G => ?_)
                      refine lv_iinc (v := nI (r.1 + 1)) (lv' := [(5, .int (nI (r.1 + 1))), (0, .ref (ad 17)), (1, .int (nI a)), (2, .int (nI b)), (3, .int 0), (4, .int (nI begun)), (6, .int (nI i)), (7, .int (b2i (mWS V b a i = true))), (8, .int (nI (begun + q)))]) hx hb dX3_gather_137 hl (k := 5) rfl (nI_add r.1 1) (by decide) rfl (fun ls hl => ?_)
                      have eW : xu (xu (mJr V (gapF r.2.1 (begun + q) r.1) (gapF r.2.2 (begun + q) r.1)) 13 (begun + q) (nI i)) 14 (begun + q) (nI a) = mJr V (mIns V i begun (nI a) r).2.1 (mIns V i begun (nI a) r).2.2 := by rw [mJr_13, mJr_14, gapF_e, gapF_e]; unfold mIns; rw [ep]
                      rw [eW, er] at G
                      rw [er] at hl
                      refine lv_iinc (v := nI (i + 1)) (lv' := [(6, .int (nI (i + 1))), (5, .int (nI ((mGa V (mWS V) a b begun i).1 + 1))), (0, .ref (ad 17)), (1, .int (nI a)), (2, .int (nI b)), (3, .int 0), (4, .int (nI begun)), (7, .int (b2i (mWS V b a i = true))), (8, .int (nI (begun + q)))]) hx hb dX3_gather_140 hl (k := 6) rfl (nI_add i 1) (by decide) rfl (fun ls hl => ?_)
                      refine lv_goto (tgt := 7) hx hb dX3_gather_143 (by decide) ?_
                      have hl := lv_sub (l' := [(0, .ref (ad 17)), (1, .int (nI a)), (2, .int (nI b)), (3, .int 0), (4, .int (nI begun)), (5, .int (nI ((mGa V (mWS V) a b begun i).1 + 1))), (6, .int (nI (i + 1)))]) hl [2, 3, 4, 5, 6, 1, 0] rfl
                      have hl := lv_cast hl (congrArg (fun z : Int32 => ([(0, .ref (ad 17)), (1, .int (nI a)), (2, .int (nI b)), (3, .int 0), (4, .int (nI begun)), (5, .int z), (6, .int (nI (i + 1)))] : List (Nat × Value))) (show nI ((mGa V (mWS V) a b begun i).1 + 1) = nI ((mGa V (mWS V) a b begun (i + 1)).1) from (congrArg (fun z : Nat × (Nat → Int32) × (Nat → Int32) => nI z.1) (mGa_a (P := mWS V) (b2i_0.mp c_29) (b2i_1 c_41))).symm))
                      have eV : mJr V (mIns V i begun (nI a) (mGa V (mWS V) a b begun i)).2.1 (mIns V i begun (nI a) (mGa V (mWS V) a b begun i)).2.2 = mJr V (mGa V (mWS V) a b begun (i + 1)).2.1 (mGa V (mWS V) a b begun (i + 1)).2.2 := (congrArg (fun z : Nat × (Nat → Int32) × (Nat → Int32) => mJr V z.2.1 z.2.2) (mGa_a (P := mWS V) (b2i_0.mp c_29) (b2i_1 c_41))).symm
                      rw [eV] at G
                      exact ih_7 (i + 1) (by omega) (by omega) _ _ _ G hl
                    · exact False.elim (c_128 c_29)
                  · skip
                    refine lv_aload_n hx hb dX3_gather_73 rfl (lv_at hl 0 rfl) ?_
                    refine m_getA B G M hin 13 (by decide) (by decide +kernel) dX3_gather_74 ?_
                    refine lv_iload hx hb dX3_gather_77 (lv_at hl 8 rfl) ?_
                    refine lv_aload_n hx hb dX3_gather_79 rfl (lv_at hl 0 rfl) ?_
                    refine m_getA B G M hin 13 (by decide) (by decide +kernel) dX3_gather_80 ?_
                    refine lv_iload hx hb dX3_gather_83 (lv_at hl 8 rfl) ?_
                    refine lv_iconst (v := 1) hx hb dX3_gather_85 (by decide) ?_
                    refine lv_isub hx hb dX3_gather_86 ?_
                    refine x_top (show (nI (begun + q)) - 1 = nI (begun + q - 1) from pk_sub (a := begun + q) (b := 1) (by omega)) ?_
                    refine m_ald B G M 13 (by decide) (begun + q - 1) (show (begun + q - 1) < 80 by omega) rfl dX3_gather_87 ?_
                    refine m_ast B G M 13 (by decide) (begun + q) (show (begun + q) < 80 by omega) rfl dX3_gather_88 (fun H locs G => ?_)
                    refine lv_aload_n hx hb dX3_gather_89 rfl (lv_at hl 0 rfl) ?_
                    refine m_getA B G M hin 14 (by decide) (by decide +kernel) dX3_gather_90 ?_
                    refine lv_iload hx hb dX3_gather_93 (lv_at hl 8 rfl) ?_
                    refine lv_aload_n hx hb dX3_gather_95 rfl (lv_at hl 0 rfl) ?_
                    refine m_getA B G M hin 14 (by decide) (by decide +kernel) dX3_gather_96 ?_
                    refine lv_iload hx hb dX3_gather_99 (lv_at hl 8 rfl) ?_
                    refine lv_iconst (v := 1) hx hb dX3_gather_101 (by decide) ?_
                    refine lv_isub hx hb dX3_gather_102 ?_
                    refine x_top (show (nI (begun + q)) - 1 = nI (begun + q - 1) from pk_sub (a := begun + q) (b := 1) (by omega)) ?_
                    refine m_ald B G M 14 (by decide) (begun + q - 1) (show (begun + q - 1) < 80 by omega) rfl dX3_gather_103 ?_
                    refine m_ast B G M 14 (by decide) (begun + q) (show (begun + q) < 80 by omega) rfl dX3_gather_104 (fun H locs G => ?_)
                    refine lv_iinc (v := nI (begun + q - 1)) (lv' := [(8, .int (nI (begun + q - 1))), (0, .ref (ad 17)), (1, .int (nI a)), (2, .int (nI b)), (3, .int 0), (4, .int (nI begun)), (5, .int (nI r.1)), (6, .int (nI i)), (7, .int (b2i (mWS V b a i = true)))]) hx hb dX3_gather_105 hl (k := 8) rfl ((by have z := pk_m1 (begun + q - 1); rw [show begun + q - 1 + 1 = begun + q by omega] at z; exact z)) (by decide) rfl (fun ls hl => ?_)
                    refine lv_goto (tgt := 48) hx hb dX3_gather_108 (by decide) ?_
                    have hl := lv_sub (l' := [(0, .ref (ad 17)), (1, .int (nI a)), (2, .int (nI b)), (3, .int 0), (4, .int (nI begun)), (5, .int (nI r.1)), (6, .int (nI i)), (7, .int (b2i (mWS V b a i = true))), (8, .int (nI (begun + q - 1)))]) hl [1, 2, 3, 4, 5, 6, 7, 8, 0] rfl
                    have hl := lv_cast hl (congrArg (fun z : Int32 => ([(0, .ref (ad 17)), (1, .int (nI a)), (2, .int (nI b)), (3, .int 0), (4, .int (nI begun)), (5, .int (nI r.1)), (6, .int (nI i)), (7, .int (b2i (mWS V b a i = true))), (8, .int z)] : List (Nat × Value))) (show nI (begun + q - 1) = nI (begun + (q - 1)) from congrArg nI (by omega)))
                    have eV : xu (xu (mJr V (gapF r.2.1 (begun + q) r.1) (gapF r.2.2 (begun + q) r.1)) 13 (begun + q) ((mJr V (gapF r.2.1 (begun + q) r.1) (gapF r.2.2 (begun + q) r.1)) 13 (begun + q - 1))) 14 (begun + q) ((xu (mJr V (gapF r.2.1 (begun + q) r.1) (gapF r.2.2 (begun + q) r.1)) 13 (begun + q) ((mJr V (gapF r.2.1 (begun + q) r.1) (gapF r.2.2 (begun + q) r.1)) 13 (begun + q - 1))) 14 (begun + q - 1)) = mJr V (gapF r.2.1 (begun + (q - 1)) r.1) (gapF r.2.2 (begun + (q - 1)) r.1) := by rw [mJr_13]; show xu (mJr _ _ _) 14 _ (gapF r.2.2 (begun + q) r.1 (begun + q - 1)) = _; rw [mJr_14]; show mJr V (upd _ _ (gapF r.2.1 (begun + q) r.1 (begun + q - 1))) _ = _; rw [gapF_s _ (by omega) (by omega), gapF_s _ (by omega) (by omega), show begun + q - 1 = begun + (q - 1) by omega]
                    rw [eV] at G
                    exact ih_48 (q - 1) (by omega) (by omega) ((insP_t (V := V) (by omega) (b2i_1 c_70)).symm.trans hpq) _ _ _ G hl
            have hl := lv_sub (l' := [(0, .ref (ad 17)), (1, .int (nI a)), (2, .int (nI b)), (3, .int 0), (4, .int (nI begun)), (5, .int (nI r.1)), (6, .int (nI i)), (7, .int (b2i (mWS V b a i = true))), (8, .int (nI r.1))]) hl [2, 3, 4, 5, 6, 7, 8, 1, 0] rfl
            have hl := lv_cast hl (congrArg (fun z : Int32 => ([(0, .ref (ad 17)), (1, .int (nI a)), (2, .int (nI b)), (3, .int 0), (4, .int (nI begun)), (5, .int (nI r.1)), (6, .int (nI i)), (7, .int (b2i (mWS V b a i = true))), (8, .int z)] : List (Nat × Value))) (show nI r.1 = nI (begun + (r.1 - begun)) from congrArg nI (by omega)))
            have eV : mJr V r.2.1 r.2.2 = mJr V (gapF r.2.1 (begun + (r.1 - begun)) r.1) (gapF r.2.2 (begun + (r.1 - begun)) r.1) := by rw [show begun + (r.1 - begun) = r.1 by omega, gapF_0, gapF_0]
            rw [eV] at G
            exact inner (r.1 - begun + 1) (r.1 - begun) (by omega) (by omega) rfl _ _ _ G hl
  have hl := lv_sub (l' := [(0, .ref (ad 17)), (1, .int (nI a)), (2, .int (nI b)), (3, .int 0), (4, .int (nI begun)), (5, .int (nI begun)), (6, .int 0)]) hl [2, 3, 4, 5, 6, 1, 0] rfl
  have hl := lv_cast hl (congrArg (fun z : Int32 => ([(0, .ref (ad 17)), (1, .int (nI a)), (2, .int (nI b)), (3, .int 0), (4, .int (nI begun)), (5, .int z), (6, .int 0)] : List (Nat × Value))) (show nI begun = nI ((mGa V (mWS V) a b begun 0).1) from rfl))
  have hl := lv_cast hl (congrArg (fun z : Int32 => ([(0, .ref (ad 17)), (1, .int (nI a)), (2, .int (nI b)), (3, .int 0), (4, .int (nI begun)), (5, .int (nI ((mGa V (mWS V) a b begun 0).1))), (6, .int z)] : List (Nat × Value))) (show 0 = nI 0 from rfl))
  have eV : V = mJr V (mGa V (mWS V) a b begun 0).2.1 (mGa V (mWS V) a b begun 0).2.2 := (mJr_0 V).symm
  rw [eV] at G
  exact loop_7 (cnt + 1) 0 (by omega) (by omega) _ _ _ G hl
