/-! THE PURE PART: meet: both go through the jobs alike -/
theorem mLp_end {a b del jobs cnt : Nat} {most : Int32} {F k : Nat} {made : Int32} {W : xV} (hF : jobs < k + F) (h : jobs ≤ k ∨ most ≤ made) (hk : k ≤ jobs) : mLp a b del jobs cnt most F k made W = (made, W) := by
  cases F with
  | zero => omega
  | succ F =>
    unfold mLp
    rcases h with h | h
    · rw [if_pos h]
    · by_cases c : jobs ≤ k
      · rw [if_pos c]
      · rw [if_neg c, if_pos h]
theorem mLp_go {a b del jobs cnt : Nat} {most : Int32} {F k : Nat} {made : Int32} {W : xV} (hF : jobs < k + F) (h1 : k < jobs) (h2 : ¬ most ≤ made) : ∃ F', jobs < k + 1 + F' ∧ mLp a b del jobs cnt most F k made W = mLp a b del jobs cnt most F' (k + 1) (made + (mSt W a b del k cnt).1) (mSt W a b del k cnt).2 := by
  cases F with
  | zero => omega
  | succ F =>
    refine ⟨F, by omega, ?_⟩
    show (if jobs ≤ k then (made, W) else if most ≤ made then (made, W) else mLp a b del jobs cnt most F (k + 1) (made + (mSt W a b del k cnt).1) (mSt W a b del k cnt).2) = _
    rw [if_neg (by omega), if_neg h2]
theorem nI_ab {a b : Nat} (ha : a < 8) (hb : b < 8) (h : a ≠ b) : nI a ≠ nI b := fun z => h ((nI_eq (by omega) (by omega)).mp z)
section Sim
variable {nb nc t : Nat} {od : Nat → Nat}
theorem sim_d (hb : nb ≤ 40) (ht : t ≤ 512) {a b : Nat} (ha : a < 8) (hb8 : b < 8) (hab : a ≠ b) (dba dab : Nat → Bool) (F13 F14 : Nat → Int32) (del jobs mo : Nat) (hmo : mo ≤ 20)
    (hex : ∀ k, dab k = true → ¬ dba k = true) (hdel : del = cntP (fun j => dba (od j) || dab (od j)) nb) (hjobs : del ≤ jobs)
    (hJ : ∀ i, i < nb → (dba (od i) || dab (od i)) = true → F13 (cntP (fun j => dba (od j) || dab (od j)) i) = nI (od i) ∧ F14 (cntP (fun j => dba (od j) || dab (od j)) i) = if dba (od i) = true then nI b else nI a)
    (f : Nat) : ∀ (i c F : Nat) (W Wm : xV), i ≤ nb → nb < i + f → c ≤ mo → Rel nb nc t od W Wm → Wm 13 = F13 → Wm 14 = F14 →
      (∀ j, i ≤ j → j < nb → ((0 < W (20 + 4 * od j + 1) a ∧ W (20 + 4 * od j) 1 = nI b) ↔ dab (od j) = true) ∧ ((0 < W (20 + 4 * od j + 1) b ∧ W (20 + 4 * od j) 1 = nI a) ↔ dba (od j) = true)) →
      Ke nb a b W → jobs < cntP (fun j => dba (od j) || dab (od j)) i + F →
      ∃ (c' : Nat) (Wm' : xV) (F' k' : Nat), (cDl od a b nb (nI mo) f i (nI c) W).1 = nI c' ∧ c' ≤ mo ∧ mLp a b del jobs nb (nI mo) F (cntP (fun j => dba (od j) || dab (od j)) i) (nI c) Wm = mLp a b del jobs nb (nI mo) F' k' (nI c') Wm' ∧ jobs < k' + F' ∧ (k' = del ∨ mo ≤ c') ∧ k' ≤ jobs ∧ Rel nb nc t od (cDl od a b nb (nI mo) f i (nI c) W).2 Wm' ∧ Wm' 13 = F13 ∧ Wm' 14 = F14 ∧ Ke nb a b (cDl od a b nb (nI mo) f i (nI c) W).2 := by
  generalize hSD : (fun j => dba (od j) || dab (od j)) = SD at hdel hJ ⊢
  have sd : ∀ j, SD j = (dba (od j) || dab (od j)) := fun j => by rw [← hSD]
  induction f with
  | zero => intro i c F W Wm h1 h2; omega
  | succ f ih =>
    intro i c F W Wm hi hf hc R e13 e14 hst ke hF
    unfold cDl
    by_cases c1 : nb ≤ i
    · rw [if_pos c1]
      have e : i = nb := by omega
      refine ⟨c, Wm, F, cntP SD i, rfl, hc, rfl, hF, Or.inl (by rw [e, hdel]), ?_, R, e13, e14, ke⟩
      rw [e, ← hdel]; exact hjobs
    · have kle : cntP SD i ≤ del := by rw [hdel]; exact cntP_mono SD (by omega)
      rw [if_neg c1]
      by_cases c2 : nI mo ≤ nI c
      · rw [if_pos c2]
        exact ⟨c, Wm, F, cntP SD i, rfl, hc, rfl, hF, Or.inr ((nI_leI (by omega) (by omega)).mp c2), by omega, R, e13, e14, ke⟩
      · rw [if_neg c2]
        have c2' : c < mo := by rw [nI_leI (by omega) (by omega)] at c2; omega
        obtain ⟨st1, st2⟩ := hst i (Nat.le_refl _) (by omega)
        have hoi := R.od_lt (show i < nb by omega)
        -- one delivery
        have step : ∀ (x y : Nat), (x = a ∧ y = b) ∨ (x = b ∧ y = a) → SD i = true → 0 < W (20 + 4 * od i + 1) x → F14 (cntP SD i) = nI x →
            ∃ (c' : Nat) (Wm' : xV) (F' k' : Nat), (cDl od a b nb (nI mo) f (i + 1) (nI c + 1) (bDeliver W (20 + 4 * od i) x y (W 0 0))).1 = nI c' ∧ c' ≤ mo ∧ mLp a b del jobs nb (nI mo) F (cntP SD i) (nI c) Wm = mLp a b del jobs nb (nI mo) F' k' (nI c') Wm' ∧ jobs < k' + F' ∧ (k' = del ∨ mo ≤ c') ∧ k' ≤ jobs ∧ Rel nb nc t od (cDl od a b nb (nI mo) f (i + 1) (nI c + 1) (bDeliver W (20 + 4 * od i) x y (W 0 0))).2 Wm' ∧ Wm' 13 = F13 ∧ Wm' 14 = F14 ∧ Ke nb a b (cDl od a b nb (nI mo) f (i + 1) (nI c + 1) (bDeliver W (20 + 4 * od i) x y (W 0 0))).2 := by
          intro x y hxy hS hp h14
          have hx : x < 8 := by rcases hxy with ⟨rfl, -⟩ | ⟨rfl, -⟩ <;> assumption
          have hy : y < 8 := by rcases hxy with ⟨-, rfl⟩ | ⟨-, rfl⟩ <;> assumption
          have kl : cntP SD i < del := by rw [hdel]; exact cntP_lt (by omega) hS
          obtain ⟨F1, hF1, eF1⟩ := mLp_go (a := a) (b := b) (del := del) (cnt := nb) (most := nI mo) (made := nI c) (W := Wm) hF (by omega) c2
          have h13 := (hJ i (by omega) (by rw [← sd]; exact hS)).1
          have fr : mFr Wm a b (cntP SD i) = x := by
            unfold mFr
            rw [e14, h14]
            rcases hxy with ⟨rfl, -⟩ | ⟨rfl, -⟩
            · rw [if_pos rfl]
            · rw [if_neg (nI_ab hb8 ha (Ne.symm hab))]
          have to : mTo Wm a b (cntP SD i) = y := by
            unfold mTo
            rw [e14, h14]
            rcases hxy with ⟨rfl, rfl⟩ | ⟨rfl, rfl⟩
            · rw [if_pos rfl]
            · rw [if_neg (nI_ab hb8 ha (Ne.symm hab))]
          have jb : mJb Wm (cntP SD i) = od i := by
            unfold mJb
            rw [e13, h13, nI_clamp (by omega)]
          have st : mSt Wm a b del (cntP SD i) nb = (1, mDel Wm x y (od i)) := by
            unfold mSt
            rw [if_pos kl, fr, to, jb]
          rw [st] at eF1
          have e13' : mDel Wm x y (od i) 13 = F13 := by rw [mDel_o _ _ _ _ (by unfold mKp; omega)]; exact e13
          have e14' : mDel Wm x y (od i) 14 = F14 := by rw [mDel_o _ _ _ _ (by unfold mKp; omega)]; exact e14
          rw [eF1, nI_1, ← cntP_t hS]
          have oth : ∀ j, j ≠ od i → ∀ q, q < 4 → bDeliver W (20 + 4 * od i) x y (W 0 0) (20 + 4 * j + q) = W (20 + 4 * j + q) := fun j hj q hq => bDeliver_z _ _ _ _ _ (fun q' hq' => by omega)
          refine ih (i + 1) (c + 1) F1 _ _ (by omega) (by omega) (by omega) (R.deliver hb ht hx hy hoi hp) e13' e14' (fun j hj1 hj2 => ?_) (fun j hj => ?_) (by rw [cntP_t hS]; exact hF1)
          · have ne : od j ≠ od i := fun w => by have := R.od_inj hj2 (show i < nb by omega) w; omega
            rw [oth (od j) ne 1 (by omega), show bDeliver W (20 + 4 * od i) x y (W 0 0) (20 + 4 * od j) = W (20 + 4 * od j) from oth (od j) ne 0 (by omega)]
            exact hst j (by omega) hj2
          · by_cases e : j = od i
            · obtain ⟨z1, z2⟩ := bDeliver_3 W (od i) x y (W 0 0)
              rw [e]
              rcases hxy with ⟨rfl, rfl⟩ | ⟨rfl, rfl⟩
              · rw [z1, z2]
              · rw [z1, z2]
            · rw [oth j e 3 (by omega)]
              exact ke j hj
        by_cases d1 : 0 < W (20 + 4 * od i + 1) a ∧ W (20 + 4 * od i) 1 = nI b
        · rw [if_pos d1]
          have q := st1.mp d1
          have hS : SD i = true := by rw [sd, q, Bool.or_true]
          refine step a b (Or.inl ⟨rfl, rfl⟩) hS d1.1 ?_
          rw [(hJ i (by omega) (by rw [← sd]; exact hS)).2, if_neg (hex _ q)]
        · rw [if_neg d1]
          by_cases d2 : 0 < W (20 + 4 * od i + 1) b ∧ W (20 + 4 * od i) 1 = nI a
          · rw [if_pos d2]
            have q := st2.mp d2
            have hS : SD i = true := by rw [sd, q, Bool.true_or]
            refine step b a (Or.inr ⟨rfl, rfl⟩) hS d2.1 ?_
            rw [(hJ i (by omega) (by rw [← sd]; exact hS)).2, if_pos q]
          · rw [if_neg d2]
            have hS : ¬ SD i = true := by
              rw [sd, Bool.or_eq_true]
              rintro (z | z)
              · exact d2 (st2.mpr z)
              · exact d1 (st1.mpr z)
            rw [← cntP_f hS]
            exact ih (i + 1) c F W Wm (by omega) (by omega) hc R e13 e14 (fun j hj1 hj2 => hst j (by omega) hj2) ke (by rw [cntP_f hS]; exact hF)
theorem sim_s (hb : nb ≤ 40) {a b : Nat} (ha : a < 8) (hb8 : b < 8) (hab : a ≠ b) (sba sab : Nat → Bool) (F13 F14 : Nat → Int32) (del jobs mo d : Nat) (hmo : mo ≤ 20) (hd : d ≤ mo)
    (hex : ∀ k, sab k = true → ¬ sba k = true) (hjobs : jobs = del + cntP (fun j => sba (od j) || sab (od j)) nb)
    (hJ : ∀ i, i < nb → (sba (od i) || sab (od i)) = true → F13 (del + cntP (fun j => sba (od j) || sab (od j)) i) = nI (od i) ∧ F14 (del + cntP (fun j => sba (od j) || sab (od j)) i) = if sba (od i) = true then nI b else nI a)
    (f : Nat) : ∀ (i c F : Nat) (W Wm : xV), i ≤ nb → nb < i + f → d + c ≤ mo → Rel nb nc t od W Wm → Wm 13 = F13 → Wm 14 = F14 →
      (∀ k, k < nb → W (20 + 4 * k) 10 = if sab k = true then nI a else if sba k = true then nI b else -1) →
      Ke nb a b W → jobs < del + cntP (fun j => sba (od j) || sab (od j)) i + F →
      ∃ (c' : Nat) (Wm' : xV), (cSl od a b nb (nI mo - nI d) f i (nI c) W).1 = nI c' ∧ mLp a b del jobs nb (nI mo) F (del + cntP (fun j => sba (od j) || sab (od j)) i) (nI (d + c)) Wm = (nI (d + c'), Wm') ∧ Rel nb nc t od (cSl od a b nb (nI mo - nI d) f i (nI c) W).2 Wm' := by
  generalize hSS : (fun j => sba (od j) || sab (od j)) = SS at hjobs hJ ⊢
  have sd : ∀ j, SS j = (sba (od j) || sab (od j)) := fun j => by rw [← hSS]
  rw [nI_subN hd]
  induction f with
  | zero => intro i c F W Wm h1 h2; omega
  | succ f ih =>
    intro i c F W Wm hi hf hc R e13 e14 gv ke hF
    unfold cSl
    by_cases c1 : nb ≤ i
    · rw [if_pos c1]
      have e : i = nb := by omega
      exact ⟨c, Wm, rfl, mLp_end hF (Or.inl (by rw [hjobs, e]; exact Nat.le_refl _)) (by rw [hjobs, e]; exact Nat.le_refl _), R⟩
    · have kle : del + cntP SS i ≤ jobs := by rw [hjobs]; have := cntP_mono SS (show i ≤ nb by omega); omega
      rw [if_neg c1]
      by_cases c2 : nI (mo - d) ≤ nI c
      · rw [if_pos c2]
        rw [nI_leI (by omega) (by omega)] at c2
        exact ⟨c, Wm, rfl, mLp_end hF (Or.inr ((nI_leI (by omega) (by omega)).mpr (by omega))) kle, R⟩
      · rw [if_neg c2]
        rw [nI_leI (by omega) (by omega)] at c2
        have hoi := R.od_lt (show i < nb by omega)
        have g := gv (od i) hoi
        have step : ∀ (x y : Nat), (x = a ∧ y = b) ∨ (x = b ∧ y = a) → SS i = true → F14 (del + cntP SS i) = nI x →
            ∃ (c' : Nat) (Wm' : xV), (cSl od a b nb (nI (mo - d)) f (i + 1) (if cSpB W od (20 + 4 * od i) x y nb = true then nI c + 1 else nI c) (cSpV W od (20 + 4 * od i) x y nb)).1 = nI c' ∧ mLp a b del jobs nb (nI mo) F (del + cntP SS i) (nI (d + c)) Wm = (nI (d + c'), Wm') ∧ Rel nb nc t od (cSl od a b nb (nI (mo - d)) f (i + 1) (if cSpB W od (20 + 4 * od i) x y nb = true then nI c + 1 else nI c) (cSpV W od (20 + 4 * od i) x y nb)).2 Wm' := by
          intro x y hxy hS h14
          have hx : x < 8 := by rcases hxy with ⟨rfl, -⟩ | ⟨rfl, -⟩ <;> assumption
          have hy : y < 8 := by rcases hxy with ⟨-, rfl⟩ | ⟨-, rfl⟩ <;> assumption
          have hne : x ≠ y := by
            rcases hxy with ⟨rfl, rfl⟩ | ⟨rfl, rfl⟩
            · exact hab
            · exact Ne.symm hab
          have kl : del + cntP SS i < jobs := by rw [hjobs]; have := cntP_lt (P := SS) (show i < nb by omega) hS; omega
          obtain ⟨F1, hF1, eF1⟩ := mLp_go (a := a) (b := b) (del := del) (cnt := nb) (most := nI mo) (made := nI (d + c)) (W := Wm) hF kl (by rw [nI_leI (by omega) (by omega)]; omega)
          have h13 := (hJ i (by omega) (by rw [← sd]; exact hS)).1
          have fr : mFr Wm a b (del + cntP SS i) = x := by
            unfold mFr
            rw [e14, h14]
            rcases hxy with ⟨rfl, -⟩ | ⟨rfl, -⟩
            · rw [if_pos rfl]
            · rw [if_neg (nI_ab hb8 ha (Ne.symm hab))]
          have to : mTo Wm a b (del + cntP SS i) = y := by
            unfold mTo
            rw [e14, h14]
            rcases hxy with ⟨rfl, rfl⟩ | ⟨rfl, rfl⟩
            · rw [if_pos rfl]
            · rw [if_neg (nI_ab hb8 ha (Ne.symm hab))]
          have jb : mJb Wm (del + cntP SS i) = od i := by
            unfold mJb
            rw [e13, h13, nI_clamp (by omega)]
          have ke' : W (20 + 4 * od i + 3) x = W (20 + 4 * od i + 3) y := by
            rcases hxy with ⟨rfl, rfl⟩ | ⟨rfl, rfl⟩
            · exact ke _ hoi
            · exact (ke _ hoi).symm
          obtain ⟨sB, sV⟩ := R.spray hb hx hy hne hoi ke'
          have st : mSt Wm a b del (del + cntP SS i) nb = (b2i (cSpB W od (20 + 4 * od i) x y nb = true), mSpV Wm x y (od i) nb) := by
            unfold mSt
            rw [if_neg (show ¬ del + cntP SS i < del by omega), fr, to, jb, sB]
          rw [st] at eF1
          rw [eF1, show del + cntP SS i + 1 = del + cntP SS (i + 1) by rw [cntP_t hS]; omega]
          have e13' : mSpV Wm x y (od i) nb 13 = F13 := by rw [mSpV_o _ _ _ _ _ (by unfold mKp; omega)]; exact e13
          have e14' : mSpV Wm x y (od i) nb 14 = F14 := by rw [mSpV_o _ _ _ _ _ (by unfold mKp; omega)]; exact e14
          have gv' : ∀ k, k < nb → cSpV W od (20 + 4 * od i) x y nb (20 + 4 * k) 10 = if sab k = true then nI a else if sba k = true then nI b else -1 := fun k hk => by
            rw [cSpV_o _ _ _ _ _ _ (by omega) (by omega) (by omega)]; exact gv k hk
          have ke2 : Ke nb a b (cSpV W od (20 + 4 * od i) x y nb) := fun j hj => by rw [cSpV_3]; exact ke j hj
          have hF2 : jobs < del + cntP SS (i + 1) + F1 := by rw [cntP_t hS]; omega
          by_cases cB : cSpB W od (20 + 4 * od i) x y nb = true
          · rw [if_pos cB, b2i_t cB, nI_1, nI_1]
            exact ih (i + 1) (c + 1) F1 _ _ (by omega) (by omega) (by omega) sV e13' e14' gv' ke2 hF2
          · rw [if_neg cB, b2i_f cB, show nI (d + c) + 0 = nI (d + c) from nI_add (d + c) 0]
            exact ih (i + 1) c F1 _ _ (by omega) (by omega) (by omega) sV e13' e14' gv' ke2 hF2
        by_cases q1 : sab (od i) = true
        · rw [if_pos q1] at g
          rw [if_pos g]
          have hS : SS i = true := by rw [sd, q1, Bool.or_true]
          refine step a b (Or.inl ⟨rfl, rfl⟩) hS ?_
          rw [(hJ i (by omega) (by rw [← sd]; exact hS)).2, if_neg (hex _ q1)]
        · rw [if_neg q1] at g
          by_cases q2 : sba (od i) = true
          · rw [if_pos q2] at g
            rw [g, if_neg (nI_ab hb8 ha (Ne.symm hab)), if_pos rfl]
            have hS : SS i = true := by rw [sd, q2, Bool.true_or]
            refine step b a (Or.inr ⟨rfl, rfl⟩) hS ?_
            rw [(hJ i (by omega) (by rw [← sd]; exact hS)).2, if_pos q2]
          · rw [if_neg q2] at g
            rw [g, if_neg (nI_m1 (by omega)), if_neg (nI_m1 (by omega))]
            have hS : ¬ SS i = true := by
              rw [sd, Bool.or_eq_true]
              rintro (z | z)
              · exact q2 z
              · exact q1 z
            rw [← cntP_f hS]
            exact ih (i + 1) c F W Wm (by omega) (by omega) hc R e13 e14 gv ke (by rw [cntP_f hS]; exact hF)
end Sim
