theorem Rel.addc {nb nc t : Nat} {od : Nat → Nat} {V Vm : xV} (h : Rel nb nc t od V Vm) (hc : nc < 30) {x y f g : Int32} (hx : 0 ≤ x ∧ x ≤ 7) (hy : 0 ≤ y ∧ y ≤ 7) (hf : 0 ≤ f) (hfg : f ≤ g) (hg : g ≤ 100000) :
    Rel nb (nc + 1) t od (xu (xu (xu (xu (xu V 9 nc x) 10 nc y) 11 nc f) 12 nc g) 6 6 (nI (nc + 1))) (xu (xu (xu (xu (xu Vm 12 (4 * nc) x) 12 (4 * nc + 1) y) 12 (4 * nc + 2) f) 12 (4 * nc + 3) g) 17 18 (nI (nc + 1))) := by
  obtain ⟨h1, h2, h3, h4, h5, h6, ⟨T, h7, h8, h9⟩, h10, h11, h12, h13, h14, h15, h16⟩ := h
  generalize hV : xu (xu (xu (xu (xu V 9 nc x) 10 nc y) 11 nc f) 12 nc g) 6 6 (nI (nc + 1)) = V'
  generalize hM : xu (xu (xu (xu (xu Vm 12 (4 * nc) x) 12 (4 * nc + 1) y) 12 (4 * nc + 2) f) 12 (4 * nc + 3) g) 17 18 (nI (nc + 1)) = M'
  have ho : ∀ i, i ≠ 6 → i ≠ 9 → i ≠ 10 → i ≠ 11 → i ≠ 12 → V' i = V i := fun i a1 a2 a3 a4 a5 => by rw [← hV, xu_ne _ _ _ a1, xu_ne _ _ _ a5, xu_ne _ _ _ a4, xu_ne _ _ _ a3, xu_ne _ _ _ a2]
  have hm : ∀ i, i ≠ 12 → i ≠ 17 → M' i = Vm i := fun i a1 a2 => by rw [← hM, xu_ne _ _ _ a2, xu_ne _ _ _ a1, xu_ne _ _ _ a1, xu_ne _ _ _ a1, xu_ne _ _ _ a1]
  have m17 : ∀ k, M' 17 k = if k = 18 then nI (nc + 1) else Vm 17 k := fun k => by rw [← hM, xu_row, xu_ne _ _ _ (by decide), xu_ne _ _ _ (by decide), xu_ne _ _ _ (by decide), xu_ne _ _ _ (by decide)]
  have m12 : ∀ k, M' 12 k = if k = 4 * nc + 3 then g else if k = 4 * nc + 2 then f else if k = 4 * nc + 1 then y else if k = 4 * nc then x else Vm 12 k := fun k => by rw [← hM, xu_ne _ _ _ (by decide), xu_row, xu_row, xu_row, xu_row]
  have v9 : ∀ j, V' 9 j = if j = nc then x else V 9 j := fun j => by rw [← hV, xu_ne _ _ _ (by decide), xu_ne _ _ _ (by decide), xu_ne _ _ _ (by decide), xu_ne _ _ _ (by decide), xu_row]
  have v10 : ∀ j, V' 10 j = if j = nc then y else V 10 j := fun j => by rw [← hV, xu_ne _ _ _ (by decide), xu_ne _ _ _ (by decide), xu_ne _ _ _ (by decide), xu_row, xu_ne _ _ _ (by decide)]
  have v11 : ∀ j, V' 11 j = if j = nc then f else V 11 j := fun j => by rw [← hV, xu_ne _ _ _ (by decide), xu_ne _ _ _ (by decide), xu_row, xu_ne _ _ _ (by decide), xu_ne _ _ _ (by decide)]
  have v12 : ∀ j, V' 12 j = if j = nc then g else V 12 j := fun j => by rw [← hV, xu_ne _ _ _ (by decide), xu_row, xu_ne _ _ _ (by decide), xu_ne _ _ _ (by decide), xu_ne _ _ _ (by decide)]
  have v6 : V' 6 6 = nI (nc + 1) := by rw [← hV, xu_row, if_pos rfl]
  refine ⟨by omega, by rw [ho 4 (by omega) (by omega) (by omega) (by omega) (by omega)]; exact h2, by rw [ho 5 (by omega) (by omega) (by omega) (by omega) (by omega)]; exact h3, by rw [m17, if_neg (by decide)]; exact h4, v6, by rw [m17, if_pos rfl], ⟨T, h7, by rw [ho 0 (by omega) (by omega) (by omega) (by omega) (by omega)]; exact h8, by rw [m17, if_neg (by decide)]; exact h9⟩, fun n hn => ?_, fun k hk => ?_, fun n hn k hk => ?_, fun j hj => ?_, fun i j hi hj => ?_, h15, fun k hk hk4 => ?_⟩
  · rw [ho 1 (by omega) (by omega) (by omega) (by omega) (by omega), ho 2 (by omega) (by omega) (by omega) (by omega) (by omega), ho 3 (by omega) (by omega) (by omega) (by omega) (by omega), hm 9 (by omega) (by omega), hm 10 (by omega) (by omega), hm 11 (by omega) (by omega)]; exact h10 n hn
  · have z := h11 k hk
    unfold RelK at z ⊢
    rw [ho (20 + 4 * k) (by omega) (by omega) (by omega) (by omega) (by omega), hm 0 (by omega) (by omega), hm 1 (by omega) (by omega), hm 2 (by omega) (by omega), hm 3 (by omega) (by omega), hm 4 (by omega) (by omega), hm 5 (by omega) (by omega)]; exact z
  · have z := h12 n hn k hk
    unfold RelN at z ⊢
    rw [ho (20 + 4 * k + 1) (by omega) (by omega) (by omega) (by omega) (by omega), ho (20 + 4 * k + 2) (by omega) (by omega) (by omega) (by omega) (by omega), ho (20 + 4 * k + 3) (by omega) (by omega) (by omega) (by omega) (by omega), ho (20 + 4 * k) (by omega) (by omega) (by omega) (by omega) (by omega), hm 6 (by omega) (by omega), hm 7 (by omega) (by omega), hm 8 (by omega) (by omega)]; exact z
  · unfold RelP
    rw [v9, v10, v11, v12, m12, m12, m12, m12]
    by_cases e : j = nc
    · subst e
      obtain ⟨a, ha, rfl⟩ := nod_nat hx
      obtain ⟨b, hb, rfl⟩ := nod_nat hy
      simp only [if_pos]
      refine ⟨⟨a, ha, rfl, by simp⟩, ⟨b, hb, rfl, by simp⟩, by simp, by simp, hf, hfg, hg⟩
    · have z := h13 j (by omega)
      unfold RelP at z
      rw [if_neg e, if_neg e, if_neg e, if_neg e]
      repeat rw [if_neg (by omega)]
      exact z
  · have z := h14 i j hi hj
    unfold bBef at z ⊢
    rw [ho (20 + 4 * od i) (by omega) (by omega) (by omega) (by omega) (by omega), ho (20 + 4 * od j) (by omega) (by omega) (by omega) (by omega) (by omega)]; exact z
  · rw [hm 5 (by omega) (by omega), hm 6 (by omega) (by omega), hm 7 (by omega) (by omega), hm 8 (by omega) (by omega)]; exact h16 k hk hk4
