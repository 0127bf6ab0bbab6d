/-! THE PURE PART: send -/
theorem insOd_perm {od : Nat → Nat} {P nb : Nat} (hP : P ≤ nb) (h : ((List.range nb).map od).Perm (List.range nb)) : ((List.range (nb + 1)).map (insOd od P nb)).Perm (List.range (nb + 1)) := by
  obtain ⟨r, rfl⟩ := Nat.exists_eq_add_of_le hP
  have e1 : (List.range (P + r + 1)).map (insOd od P (P + r)) = (List.range P).map od ++ (P + r) :: (List.range r).map (fun q => od (P + q)) := by
    rw [show P + r + 1 = P + (r + 1) by omega, List.range_add, List.map_append, List.range_succ_eq_map, List.map_map]
    congr 1
    · refine List.map_congr_left (fun q hq => ?_)
      unfold insOd
      rw [if_pos (List.mem_range.mp hq)]
    · rw [List.map_cons, List.map_map]
      congr 1
      · show insOd od P (P + r) (P + 0) = P + r
        unfold insOd
        rw [if_neg (by omega), if_pos (by omega)]
      · refine List.map_congr_left (fun q hq => ?_)
        show insOd od P (P + r) (P + (q + 1)) = od (P + q)
        unfold insOd
        rw [if_neg (by omega), if_neg (by omega)]
        congr 1
  have e2 : (List.range (P + r)).map od = (List.range P).map od ++ (List.range r).map (fun q => od (P + q)) := by
    rw [List.range_add, List.map_append, List.map_map]
    rfl
  rw [e1]
  refine List.perm_middle.trans ?_
  rw [← e2]
  refine (h.cons (P + r)).trans ?_
  rw [List.range_succ]
  exact (List.perm_append_singleton _ _).symm
theorem Rel.add {nb nc t : Nat} {od : Nat → Nat} {W Wm V2 : xV} (h : Rel nb nc t od W Wm) (hb : nb < 40) {n g P c : Nat} (hn : n < 8) (hg : g < 8) (hc : c ≤ 64) (hP : P ≤ nb) (p0 t0 : Int32)
    (q1 : ∀ j, j < P → ¬ bBef V2 (20 + 4 * nb) (20 + 4 * od j) = true) (q2 : P < nb → bBef V2 (20 + 4 * nb) (20 + 4 * od P) = true)
    (q3 : ∀ j, j < 20 + 4 * nb → j ≠ 4 → j ≠ 5 → V2 j = W j) (q4 : V2 4 2 = nI (nb + 1)) (q5 : V2 5 2 = nI (nb + 1))
    (s0 : V2 (20 + 4 * nb) 0 = nI nb) (s1 : V2 (20 + 4 * nb) 1 = nI g) (s2 : V2 (20 + 4 * nb) 2 = p0) (s3 : V2 (20 + 4 * nb) 3 = Wm 17 19 + t0) (s7 : V2 (20 + 4 * nb) 7 = nI n) (s8 : V2 (20 + 4 * nb) 8 = -1) (s9 : V2 (20 + 4 * nb) 9 = 0)
    (a1 : V2 (20 + 4 * nb + 1) = upd (fun _ => 0) n (nI c)) (a2 : V2 (20 + 4 * nb + 2) = upd (fun _ => 0) n 0) (a3 : V2 (20 + 4 * nb + 3) = (fun _ => 0)) :
    Rel (nb + 1) nc t (insOd od P nb) V2 (mSend Wm n (nI g) p0 (nI c) t0 nb) := by
  have h' := id h
  obtain ⟨h1, h2, h3, h4, h5, h6, ⟨T, h7, h8, h9⟩, h10, h11, h12, h13, h14, h15, h16⟩ := h'
  have ord := h.ord
  have odlt : ∀ i, i < nb → od i < nb := fun i hi => h.od_lt hi
  have hbf : ∀ i j, i < nb → j < nb → bBef V2 (20 + 4 * od i) (20 + 4 * od j) = bBef W (20 + 4 * od i) (20 + 4 * od j) := by
    intro i j hi hj
    have := odlt i hi
    have := odlt j hj
    unfold bBef
    rw [q3 _ (by omega) (by omega) (by omega), q3 (20 + 4 * od j) (by omega) (by omega) (by omega)]
  generalize hM : mSend Wm n (nI g) p0 (nI c) t0 nb = M'
  have mo : ∀ i, i ≠ 0 → i ≠ 1 → i ≠ 2 → i ≠ 3 → i ≠ 4 → i ≠ 6 → i ≠ 17 → M' i = Wm i := fun i b0 b1 b2 b3 b4 b6 b7 => by
    rw [← hM]; unfold mSend
    rw [xu_ne _ _ _ b7, xu_ne _ _ _ b6, xu_ne _ _ _ b4, xu_ne _ _ _ b3, xu_ne _ _ _ b2, xu_ne _ _ _ b1, xu_ne _ _ _ b0]
  have m0 : ∀ k, M' 0 k = if k = nb then nI g else Wm 0 k := fun k => by
    rw [← hM]; unfold mSend
    rw [xu_ne _ _ _ (by decide), xu_ne _ _ _ (by decide), xu_ne _ _ _ (by decide), xu_ne _ _ _ (by decide), xu_ne _ _ _ (by decide), xu_ne _ _ _ (by decide), xu_row]
  have m1 : ∀ k, M' 1 k = if k = nb then p0 else Wm 1 k := fun k => by
    rw [← hM]; unfold mSend
    rw [xu_ne _ _ _ (by decide), xu_ne _ _ _ (by decide), xu_ne _ _ _ (by decide), xu_ne _ _ _ (by decide), xu_ne _ _ _ (by decide), xu_row, xu_ne _ _ _ (by decide)]
  have m2 : ∀ k, M' 2 k = if k = nb then Wm 17 19 + t0 else Wm 2 k := fun k => by
    rw [← hM]; unfold mSend
    rw [xu_ne _ _ _ (by decide), xu_ne _ _ _ (by decide), xu_ne _ _ _ (by decide), xu_ne _ _ _ (by decide), xu_row, xu_ne _ _ _ (by decide), xu_ne _ _ _ (by decide)]
  have m3 : ∀ k, M' 3 k = if k = nb then nI n else Wm 3 k := fun k => by
    rw [← hM]; unfold mSend
    rw [xu_ne _ _ _ (by decide), xu_ne _ _ _ (by decide), xu_ne _ _ _ (by decide), xu_row, xu_ne _ _ _ (by decide), xu_ne _ _ _ (by decide), xu_ne _ _ _ (by decide)]
  have m4 : ∀ k, M' 4 k = if k = nb then -1 else Wm 4 k := fun k => by
    rw [← hM]; unfold mSend
    rw [xu_ne _ _ _ (by decide), xu_ne _ _ _ (by decide), xu_row, xu_ne _ _ _ (by decide), xu_ne _ _ _ (by decide), xu_ne _ _ _ (by decide), xu_ne _ _ _ (by decide)]
  have m6 : ∀ k, M' 6 k = if k = 40 * n + nb then nI c else Wm 6 k := fun k => by
    rw [← hM]; unfold mSend
    rw [xu_ne _ _ _ (by decide), xu_row, xu_ne _ _ _ (by decide), xu_ne _ _ _ (by decide), xu_ne _ _ _ (by decide), xu_ne _ _ _ (by decide), xu_ne _ _ _ (by decide)]
  have m17 : ∀ k, M' 17 k = if k = 17 then nI (nb + 1) else Wm 17 k := fun k => by
    rw [← hM]; unfold mSend
    rw [xu_row, xu_ne _ _ _ (by decide), xu_ne _ _ _ (by decide), xu_ne _ _ _ (by decide), xu_ne _ _ _ (by decide), xu_ne _ _ _ (by decide), xu_ne _ _ _ (by decide)]
  have v : ∀ i, i < 13 → i ≠ 4 → i ≠ 5 → V2 i = W i := fun i b0 b1 b2 => q3 i (by omega) b1 b2
  have vk : ∀ k, k < nb → ∀ j, j < 4 → V2 (20 + 4 * k + j) = W (20 + 4 * k + j) := fun k hk j hj => q3 _ (by omega) (by omega) (by omega)
  refine ⟨h1, q4, q5, by rw [m17, if_pos rfl], by rw [v 6 (by omega) (by omega) (by omega)]; exact h5, by rw [m17, if_neg (by omega)]; exact h6, ⟨T, h7, by rw [v 0 (by omega) (by omega) (by omega)]; exact h8, by rw [m17, if_neg (by omega)]; exact h9⟩, fun m hm8 => ?_, fun k hk => ?_, fun m hm8 k hk => ?_, fun j hj => ?_, fun i j hi hj => ?_, insOd_perm hP h15, fun k hk hk4 => ?_⟩
  · rw [mo 9 (by omega) (by omega) (by omega) (by omega) (by omega) (by omega) (by omega), mo 10 (by omega) (by omega) (by omega) (by omega) (by omega) (by omega) (by omega), mo 11 (by omega) (by omega) (by omega) (by omega) (by omega) (by omega) (by omega), v 1 (by omega) (by omega) (by omega), v 2 (by omega) (by omega) (by omega), v 3 (by omega) (by omega) (by omega)]
    exact h10 m hm8
  · unfold RelK
    rw [m0, m1, m2, m3, m4, mo 5 (by omega) (by omega) (by omega) (by omega) (by omega) (by omega) (by omega)]
    by_cases e : k = nb
    · subst e
      simp only [if_pos]
      rw [s0, s1, s2, s3, s7, s8, s9]
      exact ⟨rfl, ⟨g, hg, rfl, rfl⟩, rfl, rfl, rfl, rfl, (h16 k (Nat.le_refl _) hb).1, Or.inl rfl⟩
    · have z := h11 k (by omega)
      unfold RelK at z
      rw [if_neg e, if_neg e, if_neg e, if_neg e, if_neg e, show V2 (20 + 4 * k) = W (20 + 4 * k) from vk k (by omega) 0 (by omega)]
      exact z
  · unfold RelN
    rw [m6, mo 7 (by omega) (by omega) (by omega) (by omega) (by omega) (by omega) (by omega), mo 8 (by omega) (by omega) (by omega) (by omega) (by omega) (by omega) (by omega)]
    by_cases e : k = nb
    · subst e
      obtain ⟨f1, f2⟩ := h16 k (Nat.le_refl _) hb
      obtain ⟨f6, f7, f8⟩ := f2 m hm8
      rw [a1, a2, a3, f6, f7, f8]
      unfold upd
      by_cases e2 : m = n
      · subst e2
        simp only [if_pos]
        exact ⟨trivial, ⟨c, hc, rfl⟩, trivial, Or.inl trivial, fun _ => trivial, fun z => absurd z (by decide)⟩
      · rw [if_neg (show ¬ 40 * m + k = 40 * n + k by omega)]
        simp only [if_neg e2]
        exact ⟨trivial, ⟨0, by omega, rfl⟩, trivial, Or.inl trivial, fun _ => trivial, fun z => absurd z (by decide)⟩
    · have z := h12 m hm8 k (by omega)
      unfold RelN at z
      rw [if_neg (show ¬ 40 * m + k = 40 * n + nb by omega), vk k (by omega) 1 (by omega), vk k (by omega) 2 (by omega), vk k (by omega) 3 (by omega), show V2 (20 + 4 * k) = W (20 + 4 * k) from vk k (by omega) 0 (by omega)]
      exact z
  · have z := h13 j hj
    unfold RelP at z ⊢
    rw [v 9 (by omega) (by omega) (by omega), v 10 (by omega) (by omega) (by omega), v 11 (by omega) (by omega) (by omega), v 12 (by omega) (by omega) (by omega), mo 12 (by omega) (by omega) (by omega) (by omega) (by omega) (by omega) (by omega)]
    exact z
  · have pos : ∀ j, P ≤ j → j < nb → bBef V2 (20 + 4 * nb) (20 + 4 * od j) = true := by
      intro j h1 h2
      by_cases e : P = j
      · subst e; exact q2 h2
      · refine bBef_trans (q2 (by omega)) ?_
        rw [hbf P j (by omega) h2]
        exact ord P j (by omega) h2
    have neg : ∀ j, j < P → bBef V2 (20 + 4 * od j) (20 + 4 * nb) = true := by
      intro j hj
      have o := odlt j (by omega)
      refine bBef_total (q1 j hj) ?_
      rw [s0, show V2 (20 + 4 * od j) = W (20 + 4 * od j) from vk (od j) o 0 (by omega), (h11 (od j) o).1]
      intro z
      have := (nI_eq (by omega) (by omega)).mp z
      omega
    unfold insOd
    by_cases ci : i < P
    · rw [if_pos ci]
      by_cases cj : j < P
      · rw [if_pos cj, hbf i j (by omega) (by omega)]; exact ord i j hi (by omega)
      · rw [if_neg cj]
        by_cases ej : j = P
        · rw [if_pos ej]; exact neg i ci
        · rw [if_neg ej, hbf i (j - 1) (by omega) (by omega)]; exact ord i (j - 1) (by omega) (by omega)
    · rw [if_neg ci]
      by_cases ei : i = P
      · rw [if_pos ei, if_neg (by omega), if_neg (by omega)]
        exact pos (j - 1) (by omega) (by omega)
      · rw [if_neg ei, if_neg (by omega), if_neg (by omega), hbf (i - 1) (j - 1) (by omega) (by omega)]
        exact ord (i - 1) (j - 1) (by omega) (by omega)
  · obtain ⟨f1, f2⟩ := h16 k (by omega) hk4
    rw [mo 5 (by omega) (by omega) (by omega) (by omega) (by omega) (by omega) (by omega)]
    refine ⟨f1, fun m hm8 => ?_⟩
    rw [m6, if_neg (by omega), mo 7 (by omega) (by omega) (by omega) (by omega) (by omega) (by omega) (by omega), mo 8 (by omega) (by omega) (by omega) (by omega) (by omega) (by omega) (by omega)]
    exact f2 m hm8
theorem five_arg {xs : List Int32} (h : xs.length = 5) : ∃ x y p c t, xs = [x, y, p, c, t] := by
  match xs, h with
  | [x, y, p, c, t], _ => exact ⟨x, y, p, c, t, rfl⟩
theorem cop_nat {x : Int32} (h : 1 ≤ x ∧ x ≤ 64) : ∃ c, c ≤ 64 ∧ x = nI c := by
  have q1 : (1 : Int32).toInt = 1 := by decide
  have q0 : (0 : Int32).toInt = 0 := by decide
  have z := h.1
  rw [i_le] at z
  obtain ⟨k, hk, rfl⟩ := nat_of (x := x) (by rw [i_le]; omega)
  exact ⟨k, (nI_leI (a := k) (b := 64) hk (by omega)).mp h.2, rfl⟩
section Ps12
variable {l : Launch} {D : va_G} {tys : List (ClassId × FieldType)} {cI cZ cO cJ : ClassId} {mi e0 : Nat} {sa : Nat → Nat} {shm : xS} {adm : Nat → Nat}
theorem P_send (hst : l.stackTraces = false) (M : xMm shm adm cI tys) (hT3 : tys[3]? = some (cJ, .long)) : LawP l D tys mi e0 sa shm adm (LI cI cZ cO cJ tys e0) yL_send wsL_send yX3_send wsX3_send 3 5 := by
  intro t sh ad V Vm xs hxs ht ⟨nb, nc, od, DW, h16, R⟩
  obtain ⟨x, y, p0, c0, t0, rfl⟩ := five_arg hxs
  have hb : nb ≤ 40 := DW.dl.2.2.2.2.2.2.2.2
  obtain ⟨r1, r2, r3, r4, r5, r6, ⟨T, r7, r8, r9⟩, -⟩ := id R
  have fin : ∀ c, LI cI cZ cO cJ tys e0 (t + 1) sh ad V (xu Vm 17 20 c) := fun c => ⟨nb, nc, od, DW, h16, (R.thr hb c).mono⟩
  by_cases h : (0 ≤ x ∧ x ≤ 7) ∧ (0 ≤ y ∧ y ≤ 7)
  · by_cases h2 : x ≠ y ∧ (0 ≤ p0 ∧ p0 ≤ 2) ∧ (1 ≤ c0 ∧ c0 ≤ 64) ∧ (1 ≤ t0 ∧ t0 ≤ 10000)
    · by_cases h3 : nb < 40
      · obtain ⟨n, hn, rfl⟩ := nod_nat h.1
        have R0 := R.thr hb 0
        have RW := R0.roomV hb hn p0
        by_cases h4 : cRoomB V od n p0 nb = true
        · obtain ⟨g, hg, rfl⟩ := nod_nat h.2
          obtain ⟨c, hc, rfl⟩ := cop_nat h2.2.2.1
          refine ⟨0, nI nb, _, (w_send_ok l DW h16 hT3 V r2 r3 n (nI g) p0 (nI c) t0 hn h.2 h2 h3 h4).mono ?_, c_X3_send_ok l M Vm n nb (nI g) p0 (nI c) t0 hn h.2 h2 (by rw [R0.roomB hb hn]; exact h4) r4 h3, ?_⟩
          · rintro v sh' ad' V' ⟨P, V2, rfl, hP, rfl, DW', e0', e16, e16', q1, q2, q3, q4, q5, q6, q7, q8, q9⟩
            have RW2 := RW.thr hb 0
            have t19 : xu (mRoomV (xu Vm 17 20 0) n p0 nb) 17 20 0 17 19 = V 0 0 := by
              rw [xu_row, if_neg (by decide), mRoomV_o _ _ _ _ (by decide) (by decide), xu_row, if_neg (by decide), r8, r9]
            have RA := RW2.add (V2 := V2) h3 hn hg hc hP p0 t0 q1 q2 q3 q4 q5 (by rw [q6]; rfl) (by rw [q6]; rfl) (by rw [q6]; rfl) (by rw [q6, t19]; rfl) (by rw [q6]; rfl) (by rw [q6]; rfl) (by rw [q6]; rfl) q7 q8 q9
            refine ⟨rfl, ⟨nb + 1, nc, _, DW', by rw [e16]; exact h16, (RA.eqC (fun i _ _ h => xu_ne _ _ _ h)).mono⟩, e0', e16', fun _ => ?_⟩
            rw [xu_row, if_pos rfl]
          · unfold mSend
            rw [xu_row, if_neg (by decide), xu_ne _ _ _ (by decide), xu_ne _ _ _ (by decide), xu_ne _ _ _ (by decide), xu_ne _ _ _ (by decide), xu_ne _ _ _ (by decide), xu_ne _ _ _ (by decide), xu_row, if_pos rfl]
        · refine ⟨3, -1, _, (w_send_bad4 l hst DW h16 hT3 V r2 r3 n y p0 c0 t0 hn h.2 h2 h3 h4).mono ?_, c_X3_send_bad4 l M Vm n nb y p0 c0 t0 hn h.2 h2 (by rw [R0.roomB hb hn]; exact h4) r4 h3, by rw [xu_row, if_pos rfl]⟩
          rintro v sh' ad' V' ⟨rfl, rfl, rfl, rfl⟩
          exact ⟨rfl, ⟨nb, nc, od, DW, h16, (RW.thr hb 3).mono⟩, rfl, rfl, fun z => absurd z (by decide)⟩
      · have e : nb = 40 := by omega
        refine ⟨3, -1, _, (w_send_bad3 l hst DW h16 hT3 V r2 r3 x y p0 c0 t0 h.1 h.2 h2 e).mono ?_, c_X3_send_bad3 l M Vm x y p0 c0 t0 h.1 h.2 h2 (by rw [r4, e]; rfl), by rw [xu_row, if_pos rfl]⟩
        rintro v sh' ad' V' ⟨rfl, rfl, rfl, rfl⟩
        exact ⟨rfl, fin 3, rfl, rfl, fun z => absurd z (by decide)⟩
    · refine ⟨2, -1, _, (w_send_bad2 l hst DW h16 hT3 V r2 r3 x y p0 c0 t0 h.1 h.2 h2).mono ?_, c_X3_send_bad2 l M Vm x y p0 c0 t0 h.1 h.2 h2, by rw [xu_row, if_pos rfl]⟩
      rintro v sh' ad' V' ⟨rfl, rfl, rfl, rfl⟩
      exact ⟨rfl, fin 2, rfl, rfl, fun z => absurd z (by decide)⟩
  · refine ⟨1, -1, _, (w_send_bad1 l hst DW h16 hT3 V r2 r3 x y p0 c0 t0 h).mono ?_, c_X3_send_bad1 l M Vm x y p0 c0 t0 h, by rw [xu_row, if_pos rfl]⟩
    rintro v sh' ad' V' ⟨rfl, rfl, rfl, rfl⟩
    exact ⟨rfl, fin 1, rfl, rfl, fun z => absurd z (by decide)⟩
end Ps12
