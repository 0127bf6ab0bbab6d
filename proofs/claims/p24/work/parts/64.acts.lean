/-! WHAT AN ACT LEAVES -/
abbrev iA (cI : ClassId) (n : Nat) : (Nat → Int32) → va_E := fun f => .inl (cI, n, .inl f)
/-- the law's state: the class's world, its invariant, the law's rows sent (16) and places (17) -/
def LwS (cI cZ cO : ClassId) (tys : List (ClassId × FieldType)) (e0 t nb nc : Nat) (od S : Nat → Nat) (sh : xS) (ad : Nat → Nat) (V : xV) : Prop :=
  xDw sh ad cI cZ cO tys e0 nb od ∧ INV t nb nc od S V ∧ sh 16 = some (iA cI 40) ∧ sh 17 = some (iA cI 8) ∧ (∀ k, k < nb → V 16 k = nI (S k)) ∧ ∀ n, n < 8 → V 17 n = V 1 n
/-- what the law asks of an act that is not refused -/
def LF (kd : Nat) (x : Int32) (nb nb' : Nat) (V V' : xV) (r : Int32) : Prop :=
  (kd < 4 ∧ r = nI nb ∧ nb' = nb + 1 ∧ V' (20 + 4 * nb) 7 = nI (lowN x % 9) ∧ cBits V' (20 + 4 * nb) 8 = 1 <<< (nI (lowN x % 9) &&& 31) ∧ V' (20 + 4 * nb) 8 = -1 ∧ V' (20 + 4 * nb) 9 = 0) ∨
  ((4 ≤ kd ∧ kd < 9) ∧ nb' = nb ∧ V' 0 0 = V 0 0 ∧ ∃ m, m ≤ 20 ∧ r = nI m) ∨
  (kd = 9 ∧ nb' = nb ∧ V' 0 0 = V 0 0 + nI (lowN x % 30) ∧ ∃ m, m ≤ nb ∧ r = nI m) ∨
  (kd = 10 ∧ ∃ m, 1 ≤ m ∧ m ≤ 8 ∧ r = nI m) ∨ (10 < kd ∧ ∃ m, 1 ≤ m ∧ m ≤ 30 ∧ r = nI m)
def KR (sh sh' : xS) (ad ad' : Nat → Nat) (V V' : xV) : Prop := ad' 0 = ad 0 ∧ (∀ i, 16 ≤ i → i < 20 → sh' i = sh i ∧ ad' i = ad i) ∧ V' 18 = V 18
def AR (cI cZ cO : ClassId) (tys : List (ClassId × FieldType)) (e0 t nb : Nat) (kd : Nat) (x : Int32) (sh : xS) (ad : Nat → Nat) (V : xV) : Option Value → xS → (Nat → Nat) → xV → Prop := fun v sh' ad' V' =>
  ∃ r, v = some (.int r) ∧ ((r < -1 ∧ sh' = sh ∧ ad' = ad ∧ V' = V) ∨ ∃ (nb' nc' : Nat) (od' S' : Nat → Nat), LwS cI cZ cO tys e0 (t + 1) nb' nc' od' S' sh' ad' V' ∧ KR sh sh' ad ad' V V' ∧ LF kd x nb nb' V V' r)
theorem r_2 : (-2 : Int32) < -1 := by decide
theorem r_3 : (-3 : Int32) < -1 := by decide
theorem r_4 : (-4 : Int32) < -1 := by decide
theorem nI_7 {n : Nat} (h : n < 2 ^ 31) (z : nI n ≤ 7) : n < 8 := by
  have q := (nI_leI (a := n) (b := 7) h (by omega)).mp z
  omega
section AC
variable {l : Launch} {D : va_G} {sh : xS} {ad : Nat → Nat} {cI cZ cO : ClassId} {tys : List (ClassId × FieldType)} {mi e0 : Nat} {sa : Nat → Nat} {t nb nc : Nat} {od S : Nat → Nat} {V : xV}
theorem LwS.same (h : LwS cI cZ cO tys e0 t nb nc od S sh ad V) {t' nc' : Nat} {V' : xV} (hI : INV t' nb nc' od S V') (e16 : V' 16 = V 16) (e17 : V' 17 = V 17) (e1 : V' 1 = V 1) : LwS cI cZ cO tys e0 t' nb nc' od S sh ad V' := by
  obtain ⟨h1, h2, h3, h4, h5, h6⟩ := h
  exact ⟨h1, hI, h3, h4, by rw [e16]; exact h5, by rw [e17, e1]; exact h6⟩
theorem KR.same {V V' : xV} (e : V' 18 = V 18) : KR sh sh ad ad V V' := ⟨rfl, fun _ _ _ => ⟨rfl, rfl⟩, e⟩
/-- a meeting of two nodes -/
theorem W_meet_ok (DW : xDw sh ad cI cZ cO tys e0 nb od) (hI : INV t nb nc od S V) (ht : t ≤ 100000) {a b mo : Nat} (ha : a < 8) (hb8 : b < 8) (hab : a ≠ b) (hmo : mo ≤ 20) :
    xMw l yL_meet wsL_meet D sh ad tys mi e0 sa V [.ref (ad 0), .int (nI a), .int (nI b), .int (nI mo)] (fun v sh' ad' V' => sh' = sh ∧ ad' = ad ∧ ∃ m1 m2, v = some (.int (nI (m1 + m2))) ∧ m1 + m2 ≤ mo ∧ INV (t + 1) nb nc od S V' ∧ (∀ i, i < 20 → i ≠ 2 → i ≠ 3 → i ≠ 13 → i ≠ 14 → V' i = V i) ∧ KN a b nb V' ∧ (m1 < mo → ∀ k, k < nb → UN a b V' k) ∧ ((∀ k, k < nb → UN a b V k) → ∀ k, V' (20 + 4 * k) 8 = V (20 + 4 * k) 8)) := by
  refine (w_meet_ok l DW V hI.1.1 hI.1.2.1 a b nc (nI mo) ha hb8 hab ⟨nI_pos' (by omega), (nI_leI (a := mo) (b := 20) (by omega) (by omega)).mpr hmo⟩ hI.2.1.1 hI.2.1.2.1 hI.cp hI.dst).mono (fun v sh' ad' V' hR => ?_)
  obtain ⟨e1, e2, e3, e4⟩ := hR
  obtain ⟨m1, m2, q1, q2, q3, q4, q5, q6, q7, q8⟩ := hI.meet ht ha hb8 hab hmo
  rw [← e4] at q4 q5 q6 q7 q8
  exact ⟨e2, e3, m1, m2, by rw [e1, q1, q2, nI_add], q3, q4, q5, q6, q7, q8⟩
theorem W_meet (hst : l.stackTraces = false) (h : LwS cI cZ cO tys e0 t nb nc od S sh ad V) (ht : t ≤ 100000) {u v mo kd : Nat} (hu : u < 9) (hv : v < 8) (hmo : mo < 22) (hk : 4 ≤ kd ∧ kd < 9) (x : Int32) :
    xMw l yL_meet wsL_meet D sh ad tys mi e0 sa V [.ref (ad 0), .int (nI u), .int (nI v), .int (nI mo)] (AR cI cZ cO tys e0 t nb kd x sh ad V) := by
  obtain ⟨h1, h2, h3, h4, h5, h6⟩ := id h
  by_cases c : u < 8
  · by_cases c2 : u ≠ v ∧ mo ≤ 20
    · refine (W_meet_ok h1 h2 ht c hv c2.1 c2.2).mono (fun w sh' ad' V' hR => ?_)
      obtain ⟨rfl, rfl, m1, m2, e1, e2, q4, q5, -⟩ := hR
      refine ⟨_, e1, Or.inr ⟨nb, nc, od, S, h.same q4 (q5 16 (by decide) (by decide) (by decide) (by decide) (by decide)) (q5 17 (by decide) (by decide) (by decide) (by decide) (by decide)) (q5 1 (by decide) (by decide) (by decide) (by decide) (by decide)), KR.same (q5 18 (by decide) (by decide) (by decide) (by decide) (by decide)), Or.inr (Or.inl ⟨hk, rfl, congrFun (q5 0 (by decide) (by decide) (by decide) (by decide) (by decide)) 0, m1 + m2, by omega, rfl⟩)⟩⟩
    · refine (w_meet_bad2 l hst h1 V h2.1.1 h2.1.2.1 (nI u) (nI v) (nI mo) (nodeOK c) (nodeOK hv) (fun z => c2 ⟨fun y => z.1 (by rw [y]), (nI_leI (a := mo) (b := 20) (by omega) (by omega)).mp z.2.2⟩)).mono (fun w sh' ad' V' hR => ?_)
      obtain ⟨e1, e2, e3, e4⟩ := hR
      exact ⟨_, e1, Or.inl ⟨r_3, e2, e3, e4⟩⟩
  · refine (w_meet_bad1 l hst h1 V h2.1.1 h2.1.2.1 (nI u) (nI v) (nI mo) (fun z => c (nI_7 (by omega) z.1.2))).mono (fun w sh' ad' V' hR => ?_)
    obtain ⟨e1, e2, e3, e4⟩ := hR
    exact ⟨_, e1, Or.inl ⟨r_2, e2, e3, e4⟩⟩
theorem W_pass (hst : l.stackTraces = false) (h : LwS cI cZ cO tys e0 t nb nc od S sh ad V) (ht : t ≤ 100000) (x : Int32) :
    xMw l yL_pass wsL_pass D sh ad tys mi e0 sa V [.ref (ad 0), .int (nI (lowN x % 30))] (AR cI cZ cO tys e0 t nb 9 x sh ad V) := by
  obtain ⟨h1, h2, h3, h4, h5, h6⟩ := id h
  have hd : lowN x % 30 < 30 := Nat.mod_lt _ (by decide)
  by_cases c : 1 ≤ lowN x % 30
  · refine (w_pass_ok l h1 V h2.1.1 h2.1.2.1 (nI (lowN x % 30)) ⟨(nI_leI (a := 1) (by omega) (by omega)).mpr c, (nI_leI (b := 10000) (by omega) (by omega)).mpr (by omega)⟩).mono (fun w sh' ad' V' hR => ?_)
    obtain ⟨e1, rfl, rfl, e4⟩ := hR
    obtain ⟨q1, q2⟩ := h2.pass ht (d := lowN x % 30) (by omega)
    have e0' : V' 0 0 = V 0 0 + nI (lowN x % 30) := by rw [e4, cPass_o _ _ _ _ (by decide), xu_row, if_pos rfl]
    rw [← e4] at q1 q2
    exact ⟨_, e1, Or.inr ⟨nb, nc, od, S, h.same q1 (q2 16 (by decide) (by decide)) (q2 17 (by decide) (by decide)) (q2 1 (by decide) (by decide)), KR.same (q2 18 (by decide) (by decide)), Or.inr (Or.inr (Or.inl ⟨rfl, rfl, e0', _, cntP_le _ _, rfl⟩))⟩⟩
  · refine (w_pass_bad l hst h1 V h2.1.1 h2.1.2.1 (nI (lowN x % 30)) (fun z => c ((nI_leI (a := 1) (by omega) (by omega)).mp z.1))).mono (fun w sh' ad' V' hR => ?_)
    obtain ⟨e1, e2, e3, e4⟩ := hR
    exact ⟨_, e1, Or.inl ⟨r_3, e2, e3, e4⟩⟩
theorem W_contact (hst : l.stackTraces = false) (h : LwS cI cZ cO tys e0 t nb nc od S sh ad V) {u v kd : Nat} (hu : u < 9) (hv : v < 8) (hk : 10 < kd) (x f g : Int32) :
    xMw l yL_contact wsL_contact D sh ad tys mi e0 sa V [.ref (ad 0), .int (nI u), .int (nI v), .int f, .int g] (AR cI cZ cO tys e0 t nb kd x sh ad V) := by
  obtain ⟨h1, h2, h3, h4, h5, h6⟩ := id h
  by_cases c : u < 8
  · by_cases c2 : nI u ≠ nI v ∧ (0 ≤ f ∧ f ≤ 100000) ∧ (f ≤ g ∧ g ≤ 100000)
    · have hc30 := h2.2.1.2.1
      by_cases c3 : nc < 30
      · refine (w_contact_ok l h1 V h2.1.1 h2.1.2.1 (nI u) (nI v) f g nc (nodeOK c) (nodeOK hv) c2 h2.2.1.1 c3).mono (fun w sh' ad' V' hR => ?_)
        obtain ⟨e1, rfl, rfl, e4⟩ := hR
        have q1 := h2.con c hv (f := f) c2.2.2.2 c3
        have lo : ∀ i, 12 < i ∨ i = 1 → V' i = V i := fun i hi => by
          rw [e4, xu_ne _ _ _ (by omega), xu_ne _ _ _ (by omega), xu_ne _ _ _ (by omega), xu_ne _ _ _ (by omega), xu_ne _ _ _ (by omega)]
        rw [← e4] at q1
        exact ⟨_, e1, Or.inr ⟨nb, nc + 1, od, S, h.same q1 (lo 16 (by omega)) (lo 17 (by omega)) (lo 1 (by omega)), KR.same (lo 18 (by omega)), Or.inr (Or.inr (Or.inr (Or.inr ⟨hk, nc + 1, by omega, by omega, rfl⟩)))⟩⟩
      · refine (w_contact_bad3 l hst h1 V h2.1.1 h2.1.2.1 (nI u) (nI v) f g (nodeOK c) (nodeOK hv) c2 (fun z => c3 ?_)).mono (fun w sh' ad' V' hR => ?_)
        · rw [h2.2.1.1] at z
          exact (nI_ltI (b := 30) (by omega) (by omega)).mp z
        · obtain ⟨e1, e2, e3, e4⟩ := hR
          exact ⟨_, e1, Or.inl ⟨r_4, e2, e3, e4⟩⟩
    · refine (w_contact_bad2 l hst h1 V h2.1.1 h2.1.2.1 (nI u) (nI v) f g (nodeOK c) (nodeOK hv) c2).mono (fun w sh' ad' V' hR => ?_)
      obtain ⟨e1, e2, e3, e4⟩ := hR
      exact ⟨_, e1, Or.inl ⟨r_3, e2, e3, e4⟩⟩
  · refine (w_contact_bad1 l hst h1 V h2.1.1 h2.1.2.1 (nI u) (nI v) f g (fun z => c (nI_7 (by omega) z.1.2))).mono (fun w sh' ad' V' hR => ?_)
    obtain ⟨e1, e2, e3, e4⟩ := hR
    exact ⟨_, e1, Or.inl ⟨r_2, e2, e3, e4⟩⟩
/-- a buffer changed: the law's row of places follows behind -/
theorem W_buffer (hst : l.stackTraces = false) (h : LwS cI cZ cO tys e0 t nb nc od S sh ad V) {u q : Nat} (hu : u < 9) (hq : q < 9) :
    xMw l yL_buffer wsL_buffer D sh ad tys mi e0 sa V [.ref (ad 0), .int (nI u), .int (nI q)] (fun w sh' ad' V' => sh' = sh ∧ ad' = ad ∧ ∃ r, w = some (.int r) ∧ ((r < -1 ∧ V' = V) ∨ (u < 8 ∧ (∃ m, 1 ≤ m ∧ m ≤ 8 ∧ r = nI m) ∧ V' = xu V 1 u (nI q) ∧ INV (t + 1) nb nc od S V'))) := by
  obtain ⟨h1, h2, h3, h4, h5, h6⟩ := id h
  by_cases c : u < 8
  · by_cases c2 : 1 ≤ q
    · by_cases c3 : nI (cntP (cHas V u) nb) ≤ nI q
      · refine (w_buffer_ok l h1 V h2.1.1 h2.1.2.1 u (nI q) c ⟨(nI_leI (a := 1) (by omega) (by omega)).mpr c2, (nI_leI (b := 8) (by omega) (by omega)).mpr (by omega)⟩ c3).mono (fun w sh' ad' V' hR => ?_)
        obtain ⟨e1, e2, e3, e4⟩ := hR
        obtain ⟨p, p1, p2, p3, -⟩ := h2.2.2.2.choose_spec.2.2.2 u c
        exact ⟨e2, e3, _, e1, Or.inr ⟨c, ⟨p, p1, p2, p3⟩, e4, by rw [e4]; exact h2.buf ⟨c2, by omega⟩ c3⟩⟩
      · refine (w_buffer_bad3 l hst h1 V h2.1.1 h2.1.2.1 u (nI q) c ⟨(nI_leI (a := 1) (by omega) (by omega)).mpr c2, (nI_leI (b := 8) (by omega) (by omega)).mpr (by omega)⟩ c3).mono (fun w sh' ad' V' hR => ?_)
        obtain ⟨e1, e2, e3, e4⟩ := hR
        exact ⟨e2, e3, _, e1, Or.inl ⟨r_4, e4⟩⟩
    · refine (w_buffer_bad2 l hst h1 V h2.1.1 h2.1.2.1 u (nI q) c (fun z => c2 ((nI_leI (a := 1) (by omega) (by omega)).mp z.1))).mono (fun w sh' ad' V' hR => ?_)
      obtain ⟨e1, e2, e3, e4⟩ := hR
      exact ⟨e2, e3, _, e1, Or.inl ⟨r_3, e4⟩⟩
  · refine (w_buffer_bad1 l hst h1 V h2.1.1 h2.1.2.1 (nI u) (nI q) (fun z => c (nI_7 (by omega) z.2))).mono (fun w sh' ad' V' hR => ?_)
    obtain ⟨e1, e2, e3, e4⟩ := hR
    exact ⟨e2, e3, _, e1, Or.inl ⟨r_2, e4⟩⟩
theorem room_none {V : xV} {od : Nat → Nat} {n : Nat} {prio : Int32} {nb : Nat} (h : ¬ cRoomB V od n prio nb = true) : cRoomV V od n prio nb = V := by
  unfold cRoomB at h
  unfold cRoomV
  by_cases c : V 1 n ≤ nI (cntP (cHas V n) nb)
  · rw [if_pos c] at h ⊢
    by_cases d : cLast V od n nb = 0
    · rw [if_pos d]
    · rw [if_neg d] at h ⊢
      rw [if_neg (fun z => h (decide_eq_true z))]
  · rw [if_neg c]
/-- a bundle sent: the law's row of copies follows behind -/
theorem W_send (hst : l.stackTraces = false) (h : LwS cI cZ cO tys e0 t nb nc od S sh ad V) (ht : t ≤ 100000) {u v p c d : Nat} (hu : u < 9) (hv : v < 8) (hp : p < 3) (hc : c < 12) (hd : d < 90) :
    xMw l yL_send wsL_send D sh ad tys mi e0 sa V [.ref (ad 0), .int (nI u), .int (nI v), .int (nI p), .int (nI c), .int (nI (1 + d))] (fun w sh' ad' V' => ∃ r, w = some (.int r) ∧ ((r < -1 ∧ sh' = sh ∧ ad' = ad ∧ V' = V) ∨ (r = nI nb ∧ nb < 40 ∧ ∃ od', xDw sh' ad' cI cZ cO tys e0 (nb + 1) od' ∧ INV (t + 1) (nb + 1) nc od' (fun k => if k = nb then c else S k) V' ∧ ad' 0 = ad 0 ∧ (∀ i, 16 ≤ i → i < 20 → sh' i = sh i ∧ ad' i = ad i) ∧ (∀ i, i < 20 → i ≠ 2 → i ≠ 4 → i ≠ 5 → V' i = V i) ∧ V' (20 + 4 * nb) 7 = nI u ∧ cBits V' (20 + 4 * nb) 8 = 1 <<< (nI u &&& 31) ∧ V' (20 + 4 * nb) 8 = -1 ∧ V' (20 + 4 * nb) 9 = 0))) := by
  obtain ⟨h1, h2, h3, h4, h5, h6⟩ := id h
  have hnb := h2.1.2.2
  have rp : 0 ≤ nI p ∧ nI p ≤ 2 := ⟨nI_pos' (by omega), (nI_leI (b := 2) (by omega) (by omega)).mpr (by omega)⟩
  have rt : 1 ≤ nI (1 + d) ∧ nI (1 + d) ≤ 10000 := ⟨(nI_leI (a := 1) (by omega) (by omega)).mpr (by omega), (nI_leI (b := 10000) (by omega) (by omega)).mpr (by omega)⟩
  by_cases c1 : u < 8
  · by_cases c2 : u ≠ v ∧ 1 ≤ c
    · have rc : 1 ≤ nI c ∧ nI c ≤ 64 := ⟨(nI_leI (a := 1) (by omega) (by omega)).mpr c2.2, (nI_leI (b := 64) (by omega) (by omega)).mpr (by omega)⟩
      have ne : nI u ≠ nI v := nI_ab c1 hv c2.1
      by_cases c3 : nb = 40
      · refine (w_send_bad3 l hst h1 V h2.1.1 h2.1.2.1 (nI u) (nI v) (nI p) (nI c) (nI (1 + d)) (nodeOK c1) (nodeOK hv) ⟨ne, rp, rc, rt⟩ c3).mono (fun w sh' ad' V' hR => ?_)
        obtain ⟨e1, e2, e3, e4⟩ := hR
        exact ⟨_, e1, Or.inl ⟨r_4, e2, e3, e4⟩⟩
      · by_cases c4 : cRoomB V od u (nI p) nb = true
        · refine (w_send_ok l h1 V h2.1.1 h2.1.2.1 u (nI v) (nI p) (nI c) (nI (1 + d)) c1 (nodeOK hv) ⟨ne, rp, rc, rt⟩ (by omega) c4).mono (fun w sh' ad' V' hR => ?_)
          obtain ⟨P, e1, hP, DW2, e0', k16, -, -, q3, q4, q5, qb, a1, a2, a3⟩ := hR
          obtain ⟨z1, z2⟩ := h2.send ht (by omega) c1 hv ⟨c2.2, by omega⟩ ⟨by omega, by omega⟩ hP (nI p) c4 q3 q4 q5 qb a1 a2 a3
          refine ⟨_, e1, Or.inr ⟨rfl, by omega, _, DW2, z1, e0', k16, z2, by rw [qb]; rfl, cBits_one V' _ c1 (fun m hm => ?_), by rw [qb]; rfl, by rw [qb]; rfl⟩⟩
          rw [a1]
          show 0 < (if m = u then nI c else 0) ↔ m = u
          by_cases e : m = u
          · rw [if_pos e]
            exact ⟨fun _ => e, fun _ => (nI_ltI (a := 0) (by omega) (by omega)).mpr c2.2⟩
          · rw [if_neg e]
            exact ⟨fun z => absurd z (by decide), fun z => absurd z e⟩
        · refine (w_send_bad4 l hst h1 V h2.1.1 h2.1.2.1 u (nI v) (nI p) (nI c) (nI (1 + d)) c1 (nodeOK hv) ⟨ne, rp, rc, rt⟩ (by omega) c4).mono (fun w sh' ad' V' hR => ?_)
          obtain ⟨e1, e2, e3, e4⟩ := hR
          exact ⟨_, e1, Or.inl ⟨r_4, e2, e3, e4.trans (room_none c4)⟩⟩
    · refine (w_send_bad2 l hst h1 V h2.1.1 h2.1.2.1 (nI u) (nI v) (nI p) (nI c) (nI (1 + d)) (nodeOK c1) (nodeOK hv) (fun z => c2 ⟨fun y => z.1 (by rw [y]), (nI_leI (a := 1) (by omega) (by omega)).mp z.2.2.1.1⟩)).mono (fun w sh' ad' V' hR => ?_)
      obtain ⟨e1, e2, e3, e4⟩ := hR
      exact ⟨_, e1, Or.inl ⟨r_3, e2, e3, e4⟩⟩
  · refine (w_send_bad1 l hst h1 V h2.1.1 h2.1.2.1 (nI u) (nI v) (nI p) (nI c) (nI (1 + d)) (fun z => c1 (nI_7 (by omega) z.1.2))).mono (fun w sh' ad' V' hR => ?_)
    obtain ⟨e1, e2, e3, e4⟩ := hR
    exact ⟨_, e1, Or.inl ⟨r_2, e2, e3, e4⟩⟩
end AC
