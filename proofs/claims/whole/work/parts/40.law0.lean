/-! THE LAW: calls with worlds apart -/
theorem xMw.mono {l : Launch} {y : MethodName} {ws : List Cond} {D : va_G} {sh : xS} {ad : Nat → Nat} {tys : List (ClassId × FieldType)} {mi e0 : Nat} {sa : Nat → Nat} {V : xV} {av : List Value} {Rp Rp' : Option Value → xS → (Nat → Nat) → xV → Prop} (h : xMw l y ws D sh ad tys mi e0 sa V av Rp) (hR : ∀ v sh' ad' V', Rp v sh' ad' V' → Rp' v sh' ad' V') : xMw l y ws D sh ad tys mi e0 sa V av Rp' := by
  intro sz p e ha hc hk s m args below h1 h2 h3 h4
  obtain ⟨n, o, g1, g2, g3, g4⟩ := h sz p e ha hc hk s m args below h1 h2 h3 h4
  refine ⟨n, o, g1, g2, g3, ?_⟩
  rcases g4 with ⟨⟨v, sh', ad', V', q1, q2, q3⟩, q4⟩ | ⟨q, z1, E, ce, L, z2, z3⟩
  · exact Or.inl ⟨⟨v, sh', ad', V', q1, hR _ _ _ _ q2, q3⟩, q4⟩
  · exact z2.elim
section XLw
variable {p : Program} {l : Launch} {e : Env} {R : Room} {s : State} {m : MethodId} {args : Array Value} {below : List Frame} {meth : Method} {c : Code} {H : Heap} {locs : List Loc} {cells slots : Nat} {Q : State → Prop}
variable {cc : ByteArray} {nL : Nat} {ret : Option FieldType} {Ts : List Cond} {own : String} {D : va_G} {sh : xS} {ad : Nat → Nat} {A : Nat → Prop} {tys : List (ClassId × FieldType)} {mi e0 : Nat} {sa : Nat → Nat} {V : xV} {pc : Nat} {ls : Array Slot} {rest st0 : List Value}
/-- a call of a wrapper, and what else lies in the heap -/
theorem x_callSw {y : MethodName} {bytes : ByteArray} {maxL n index : Nat} {rty : Option FieldType} {hh : List (Nat × Nat × Nat × Nat)} {ws : List Cond} {As : List Value} {Rp : Option Value → xS → (Nat → Nat) → xV → Prop} (Kp : Heap → Prop)
    (B : xB p s m args meth c cc nL ret Ts own D sh ad A tys) (E : xE mi e0 A s s.heap) (F : xF sa A s s.heap) (hN : xN s) (G : xG D sh ad A s.heap V H locs) (hKp : ∀ H1 : Heap, H.size ≤ H1.size → (∀ q : Nat, q < H.size → ¬ xA sh ad H.size q → H1[q]? = H[q]?) → Kp H1) (hM : xMw l y ws D sh ad tys mi e0 sa V As Rp) (cw : vx_CSW R s args own index y bytes maxL rty hh ws rmW 8 180 n)
    (hn : As.length = n) (hsz : ls.size = nL) (hst : st0 = As.reverse ++ rest) (hW : (rest.map fun v => v.category).sum ≤ 8) (hcs : cells + 8 ≤ R.cells ∧ slots + 180 ≤ R.slots) (hdg : decode cc pc = .ok (.invokestatic index, 3))
    (kk : ∀ (v : Option Value) (sh' : xS) (ad' : Nat → Nat) (V' : xV) (H1 : Heap) (locs1 : List Loc), Rp v sh' ad' V' → Kp H1 → (∀ (i : Nat) (mk : (Nat → Int32) → va_E), sh' i = some mk → xA sh ad H.size (ad' i)) → xB p s m args meth c cc nL ret Ts own D sh' ad' A tys → xG D sh' ad' A s.heap V' H1 locs1 → W p l e R s m args below meth c H1 locs1 (cells + 8) (slots + 180) Q (F0 m (pc + 3) ls (v.toList ++ rest))) : W p l e R s m args below meth c H locs cells slots Q (F0 m pc ls st0) := by
  have hA := xB.lt B G
  intro T hT X
  rcases vx_runSX (As := As) (rest := rest) B.1 (hM H.size) cw ⟨xPreW_blind, fun U hU hW => ⟨rfl, by rw [hU], by rw [hU]; exact G.1, va_K.moved hW.alike B.2.2.2.1, E.at B G hU hW, F.at B G hU hW, hN.moved hW.alike⟩⟩ rfl hn hsz hst (lv_room hW) hdg hcs T hT X with ⟨v, st₀, t, T', L, h0, X', hL, e1, e2, ⟨v', sh', ad', V', hv, hR, hI', hA', hE, hF⟩, st⟩ | ⟨q, st₀, t, T', L, E', ce, h0, X', hL, e1, e2, hf, hce, hcv, hcl, st⟩
  · cases hv
    obtain ⟨k1, k2, k3⟩ := vx_keep h0 e1 G.2 (fun q _ h => hA q h) hA hL hF
    obtain ⟨b1, b2, b3, b4, b5, b6, b7⟩ := B
    obtain ⟨t2, a1, b1'⟩ := kk _ sh' ad' V' T'.heap (locs ++ L) hR (hKp _ k1 k2) hA' ⟨b1, b2, b3, b4, hI', fun i mk hi => hA _ (hA' i mk hi), b7⟩ ⟨by rw [e1]; exact hE.1, k3⟩ T' rfl X'
    exact ⟨t2, st t2 a1, b1'⟩
  · exact hf.elim
/-- addresses of a world that came out of a call are none of another world's -/
theorem xApart.after {sh' shm : xS} {ad' adm : Nat → Nat} {Vm : xV} (hap : xApart sh ad shm adm) (Wm : xW D shm adm Vm H) (hA' : ∀ (i : Nat) (mk : (Nat → Int32) → va_E), sh' i = some mk → xA sh ad H.size (ad' i)) : xApart sh' ad' shm adm := by
  intro i mk j mj hi hj z
  rcases hA' i mk hi with ⟨k, mk', hk, e⟩ | h
  · exact hap k mk' j mj hk hj (e.trans z)
  · have := (Wm j mj hj).lt
    omega
/-- the out row's long -/
theorem x_lld (B : xB p s m args meth c cc nL ret Ts own D sh ad A tys) (G : xG D sh ad A s.heap V H locs) {cJ : ClassId} (hs : sh 16 = some (oMk cJ)) (ht : tys[3]? = some (cJ, .long)) (hdg : decode cc pc = .ok (.laload, 1))
    (kk : W p l e R s m args below meth c H locs cells slots Q (F0 m (pc + 1) ls (.long (V 16 0).toInt64 :: rest))) : W p l e R s m args below meth c H locs cells slots Q (F0 m pc ls (.int 0 :: .ref (ad 16) :: rest)) := by
  refine va_lald (D := D) (cl := vwCl) (ws := [(ad 16, .inl (cJ, 1, .inr (.inl (fun j => (V 16 j).toInt64))))]) B.1.1 B.1.2.1 B.2.2.2.1 (xP1 (G.1 16 _ hs)) 0 3 rfl ht (i := 0) (vp_in_nI (show 0 < 1 from Nat.one_pos) (show 1 < 2 ^ 31 from Nat.le_of_ble_eq_true rfl)) hdg ?_
  exact kk
end XLw
