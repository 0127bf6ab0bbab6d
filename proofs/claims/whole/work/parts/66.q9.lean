/-! THE PURE PART: meet: deliveries and sprays -/
def Ke (nb a b : Nat) (W : xV) : Prop := ∀ j, j < nb → W (20 + 4 * j + 3) a = W (20 + 4 * j + 3) b
theorem bDeliver_z (V : xV) (k n d : Nat) (t : Int32) {i : Nat} (h : ∀ j, j < 4 → i ≠ 20 + 4 * k + j) : bDeliver V (20 + 4 * k) n d t i = V i := by
  unfold bDeliver
  rw [bLearn_z _ _ _ h, bLearn_z _ _ _ h, xu_ne _ _ _ (show i ≠ 20 + 4 * k from h 0 (by omega)), xu_ne _ _ _ (show i ≠ 20 + 4 * k from h 0 (by omega))]
theorem bDeliver_3 (V : xV) (k n d : Nat) (t : Int32) : bDeliver V (20 + 4 * k) n d t (20 + 4 * k + 3) n = 1 ∧ bDeliver V (20 + 4 * k) n d t (20 + 4 * k + 3) d = 1 := by
  unfold bDeliver
  rw [bLearn_3, bLearn_3, bLearn_3, bLearn_3, if_pos rfl, if_pos rfl]
  refine ⟨?_, rfl⟩
  split
  · rfl
  · rfl
section RelD
variable {nb nc t : Nat} {od : Nat → Nat} {V Vm : xV}
theorem Rel.stamp (h : Rel nb nc t od V Vm) (hb : nb ≤ 40) {k : Nat} (hk : k < nb) (T x : Int32) (hT : 0 ≤ T) : Rel nb nc t od (xu (xu V (20 + 4 * k) 8 T) (20 + 4 * k) 9 x) (xu (xu Vm 4 k T) 5 k x) := by
  obtain ⟨k1, k2, k3, k4, k5, k6, k7, k8⟩ := h.rk k hk
  have o : ∀ i, i ≠ 20 + 4 * k → xu (xu V (20 + 4 * k) 8 T) (20 + 4 * k) 9 x i = V i := fun i a => by rw [xu_ne _ _ _ a, xu_ne _ _ _ a]
  have m : ∀ i, i ≠ 4 → i ≠ 5 → xu (xu Vm 4 k T) 5 k x i = Vm i := fun i a b => by rw [xu_ne _ _ _ b, xu_ne _ _ _ a]
  have s : ∀ i, xu (xu V (20 + 4 * k) 8 T) (20 + 4 * k) 9 x (20 + 4 * k) i = if i = 9 then x else if i = 8 then T else V (20 + 4 * k) i := fun i => by rw [xu_row, xu_row]
  refine h.one hb k hk (fun i hi => o i (by omega)) (fun k' e j hj => o _ (by omega)) (fun i hi => by rw [s, if_neg (by omega), if_neg (by omega)]) (fun i _ _ a b _ _ _ => m i a b) (m 17 (by decide) (by decide)) (fun k' e => ?_) (fun n k' hn hk' e => ?_) ?_ (fun n hn => ?_)
  · rw [m 3 (by decide) (by decide), xu_ne _ _ _ (show 4 ≠ 5 by decide), xu_row, if_neg e, xu_row, if_neg e, xu_ne _ _ _ (show 5 ≠ 4 by decide)]
    exact ⟨rfl, rfl, rfl⟩
  · rw [m 6 (by decide) (by decide), m 7 (by decide) (by decide), m 8 (by decide) (by decide)]
    exact ⟨rfl, rfl, rfl⟩
  · rw [m 3 (by decide) (by decide), s 7, s 8, s 9, if_neg (show ¬ 7 = 9 by decide), if_neg (show ¬ 7 = 8 by decide), if_neg (show ¬ 8 = 9 by decide), if_pos (show 8 = 8 from rfl), if_pos (show 9 = 9 from rfl), xu_ne _ _ _ (show 4 ≠ 5 by decide), xu_at, xu_at, if_pos ⟨rfl, rfl⟩, if_pos ⟨rfl, rfl⟩]
    exact ⟨k5, rfl, rfl, Or.inr hT⟩
  · have r := h.rn n hn k hk
    unfold RelN at r ⊢
    rw [m 6 (by decide) (by decide), m 7 (by decide) (by decide), m 8 (by decide) (by decide), o (20 + 4 * k + 1) (by omega), o (20 + 4 * k + 2) (by omega), o (20 + 4 * k + 3) (by omega), s 7]
    exact r
theorem Rel.deliver (h : Rel nb nc t od V Vm) (hb : nb ≤ 40) (ht : t ≤ 512) {n d k : Nat} (hn : n < 8) (hd : d < 8) (hk : k < nb) (hp : 0 < V (20 + 4 * k + 1) n) : Rel nb nc t od (bDeliver V (20 + 4 * k) n d (V 0 0)) (mDel Vm n d k) := by
  obtain ⟨-, T, hT, v0, vm⟩ := h.ah ht
  have r := (h.rn n hn k hk).2.2.2.2.1 hp
  unfold bDeliver mDel
  rw [r, vm, v0]
  exact ((h.stamp hb hk (nI T) _ (nI_pos' (by omega))).learn hb hn hk).learn hb hd hk
theorem half64 : ∀ c : Fin 65, nI c.val / 2 = nI (c.val / 2) := by decide +kernel
theorem Rel.halve (h : Rel nb nc t od V Vm) (hb : nb ≤ 40) {g d k : Nat} (hg : g < 8) (hd : d < 8) (hne : g ≠ d) (hk : k < nb) (hp : 0 < V (20 + 4 * k + 1) g) (hkn : V (20 + 4 * k + 3) d ≠ 1) :
    Rel nb nc t od (bHalve V (20 + 4 * k) g d) (xu (xu (xu Vm 6 (40 * d + k) (Vm 6 (40 * g + k) / 2)) 6 (40 * g + k) (Vm 6 (40 * g + k) - Vm 6 (40 * g + k) / 2)) 7 (40 * d + k) (Vm 7 (40 * g + k) + 1)) := by
  obtain ⟨k1, k2, k3, k4, k5, k6, k7, k8⟩ := h.rk k hk
  obtain ⟨g1, ⟨c, hc, g2⟩, g3, g4, g5, g6⟩ := h.rn g hg k hk
  have g5 := g5 hp
  rw [g1, g5, g2, half64 ⟨c, by omega⟩, nI_subN (show c / 2 ≤ c by omega)]
  have eV : bHalve V (20 + 4 * k) g d = xu (xu (xu V (20 + 4 * k + 1) g (nI (c - c / 2))) (20 + 4 * k + 1) d (nI (c / 2))) (20 + 4 * k + 2) d (V (20 + 4 * k + 2) g + 1) := by
    unfold bHalve bPut
    rw [g2, half64 ⟨c, by omega⟩, nI_subN (show c / 2 ≤ c by omega)]
  rw [eV]
  generalize hV : xu (xu (xu V (20 + 4 * k + 1) g (nI (c - c / 2))) (20 + 4 * k + 1) d (nI (c / 2))) (20 + 4 * k + 2) d (V (20 + 4 * k + 2) g + 1) = V'
  generalize hM : xu (xu (xu Vm 6 (40 * d + k) (nI (c / 2))) 6 (40 * g + k) (nI (c - c / 2))) 7 (40 * d + k) (V (20 + 4 * k + 2) g + 1) = M'
  have o : ∀ i, i ≠ 20 + 4 * k + 1 → i ≠ 20 + 4 * k + 2 → V' i = V i := fun i a b => by rw [← hV, xu_ne _ _ _ b, xu_ne _ _ _ a, xu_ne _ _ _ a]
  have v1 : ∀ j, V' (20 + 4 * k + 1) j = if j = d then nI (c / 2) else if j = g then nI (c - c / 2) else V (20 + 4 * k + 1) j := fun j => by rw [← hV, xu_ne _ _ _ (by omega), xu_row, xu_row]
  have v2 : ∀ j, V' (20 + 4 * k + 2) j = if j = d then V (20 + 4 * k + 2) g + 1 else V (20 + 4 * k + 2) j := fun j => by rw [← hV, xu_row, xu_ne _ _ _ (by omega), xu_ne _ _ _ (by omega)]
  have m : ∀ i, i ≠ 6 → i ≠ 7 → M' i = Vm i := fun i a b => by rw [← hM, xu_ne _ _ _ b, xu_ne _ _ _ a, xu_ne _ _ _ a]
  have m6 : ∀ j, M' 6 j = if j = 40 * g + k then nI (c - c / 2) else if j = 40 * d + k then nI (c / 2) else Vm 6 j := fun j => by rw [← hM, xu_ne _ _ _ (by decide), xu_row, xu_row]
  have m7 : ∀ j, M' 7 j = if j = 40 * d + k then V (20 + 4 * k + 2) g + 1 else Vm 7 j := fun j => by rw [← hM, xu_row, xu_ne _ _ _ (by decide), xu_ne _ _ _ (by decide)]
  refine h.one hb k hk (fun i hi => o i (by omega) (by omega)) (fun k' e j hj => o _ (by omega) (by omega)) (fun i hi => by rw [o _ (by omega) (by omega)]) (fun i _ _ _ _ a b _ => m i a b) (m 17 (by decide) (by decide)) (fun k' e => ?_) (fun n k' hn hk' e => ?_) ?_ (fun n hn => ?_)
  · rw [m 3 (by decide) (by decide), m 4 (by decide) (by decide), m 5 (by decide) (by decide)]
    exact ⟨rfl, rfl, rfl⟩
  · rw [m6, if_neg (by omega), if_neg (by omega), m7, if_neg (by omega), m 8 (by decide) (by decide)]
    exact ⟨rfl, rfl, rfl⟩
  · rw [m 3 (by decide) (by decide), m 4 (by decide) (by decide), m 5 (by decide) (by decide), o _ (by omega) (by omega)]
    exact ⟨k5, k6, k7, k8⟩
  · obtain ⟨n1, n2, n3, n4, n5, n6⟩ := h.rn n hn k hk
    unfold RelN
    rw [m6, m7, m 8 (by decide) (by decide), v1, v2, o (20 + 4 * k + 3) (by omega) (by omega), o (20 + 4 * k) (by omega) (by omega)]
    by_cases e1 : n = g
    · subst e1
      rw [if_pos rfl, if_neg (show ¬ 40 * n + k = 40 * d + k by omega), if_neg hne, if_pos rfl, if_neg hne]
      exact ⟨rfl, ⟨c - c / 2, by omega, rfl⟩, n3, n4, fun _ => g5, fun z => absurd hp (by rw [(n6 z).1]; decide)⟩
    · rw [if_neg (show ¬ 40 * n + k = 40 * g + k by omega)]
      by_cases e2 : n = d
      · subst e2
        simp only [if_pos]
        exact ⟨trivial, ⟨c / 2, by omega, rfl⟩, n3, n4, fun _ => trivial, fun z => absurd z hkn⟩
      · rw [if_neg (show ¬ 40 * n + k = 40 * d + k by omega), if_neg (show ¬ 40 * n + k = 40 * d + k by omega), if_neg e2, if_neg e1, if_neg e2]
        exact ⟨n1, n2, n3, n4, n5, n6⟩
theorem cRoomV_g (V : xV) (od : Nat → Nat) (n : Nat) (p : Int32) (nb k g : Nat) (hne : g ≠ n) : cRoomV V od n p nb (20 + 4 * k + 1) g = V (20 + 4 * k + 1) g := by
  unfold cRoomV
  split
  · split
    · rfl
    · split
      · unfold bPut
        rw [xu_ne _ _ _ (by omega), xu_ne _ _ _ (by omega), xu_at, if_neg (fun z => hne z.2)]
      · rfl
  · rfl
theorem cRoomV_3 (V : xV) (od : Nat → Nat) (n : Nat) (p : Int32) (nb k : Nat) : cRoomV V od n p nb (20 + 4 * k + 3) = V (20 + 4 * k + 3) := by
  unfold cRoomV
  split
  · split
    · rfl
    · split
      · rw [xu_ne _ _ _ (by omega), bPut_o _ _ _ _ _ (by omega) (by omega)]
      · rfl
  · rfl
theorem cSpV_3 (V : xV) (od : Nat → Nat) (k g d nb j : Nat) : cSpV V od (20 + 4 * k) g d nb (20 + 4 * j + 3) = V (20 + 4 * j + 3) := by
  unfold cSpV
  split
  · split
    · rw [bHalve_o _ _ _ _ (by omega) (by omega), cRoomV_3]
    · rw [xu_ne _ _ _ (by omega), cRoomV_3]
  · rfl
theorem Rel.spray (h : Rel nb nc t od V Vm) (hb : nb ≤ 40) {g d k : Nat} (hg : g < 8) (hd : d < 8) (hne : g ≠ d) (hk : k < nb) (ke : V (20 + 4 * k + 3) g = V (20 + 4 * k + 3) d) :
    mSpB Vm g d k nb = cSpB V od (20 + 4 * k) g d nb ∧ Rel nb nc t od (cSpV V od (20 + 4 * k) g d nb) (mSpV Vm g d k nb) := by
  obtain ⟨g1, ⟨c, hc, g2⟩, g3, g4, g5, g6⟩ := h.rn g hg k hk
  have pr := (h.rk k hk).2.2.1
  unfold mSpB cSpB cSpV mSpV
  by_cases hp : 0 < V (20 + 4 * k + 1) g
  · have n0 : ¬ Vm 6 (40 * g + k) = 0 := by rw [g1]; intro z; rw [z] at hp; exact absurd hp (by decide)
    rw [if_pos hp, if_pos hp, if_neg n0, if_neg n0, pr, h.roomB hb hd]
    refine ⟨rfl, ?_⟩
    have RU := h.roomV hb hd (V (20 + 4 * k) 2)
    have u1 := cRoomV_g V od d (V (20 + 4 * k) 2) nb k g hne
    have u3 := cRoomV_3 V od d (V (20 + 4 * k) 2) nb k
    have e6 : Vm 6 (40 * g + k) = mRoomV Vm d (V (20 + 4 * k) 2) nb 6 (40 * g + k) := by
      rw [(RU.rn g hg k hk).1, u1, g1]
    by_cases cB : cRoomB V od d (V (20 + 4 * k) 2) nb = true
    · rw [if_pos cB, if_pos cB]
      dsimp only
      rw [e6]
      refine RU.halve hb hg hd hne hk (by rw [u1]; exact hp) ?_
      rw [u3, ← ke]
      intro z
      rw [(g6 z).1] at hp
      exact absurd hp (by decide)
    · rw [if_neg cB, if_neg cB]
      exact RU.cnt3 hd
  · have n0 : Vm 6 (40 * g + k) = 0 := by
      rw [g1, g2]
      rw [g2] at hp
      by_cases z : c = 0
      · subst z; rfl
      · exact absurd ((nI_ltI (a := 0) (by omega) (by omega)).mpr (by omega)) hp
    rw [if_neg hp, if_neg hp, if_pos n0, if_pos n0]
    exact ⟨rfl, h⟩
end RelD
