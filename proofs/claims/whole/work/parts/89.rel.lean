/-! THE LAW: the program's state and the reference's, side by side -/
theorem wrt_uni {a b n n2 : Nat} {f f2 : Nat → Nat} (h : wrt a b f n) (h2 : wrt a b f2 n2) : n = n2 ∧ ∀ j, j < n → f j = f2 j := by
  obtain ⟨m, d1, e1, r1⟩ := h
  obtain ⟨m', d2, e2, r2⟩ := h2
  have em := dn_uni d1 d2
  subst em
  rcases r1 with ⟨b1, rfl⟩ | ⟨b1, k, g1, rfl, g3, g4⟩
  · rcases r2 with ⟨-, rfl⟩ | ⟨b2, -⟩
    · exact ⟨rfl, fun j hj => (e1 j hj).trans (e2 j hj).symm⟩
    · exact absurd b1 b2
  · rcases r2 with ⟨b2, -⟩ | ⟨-, k', g1', rfl, g3', g4'⟩
    · exact absurd b2 b1
    · have ek := dn_uni g1 g1'
      subst ek
      refine ⟨rfl, fun j hj => ?_⟩
      rcases Nat.lt_or_ge j m with q | q
      · exact (e1 j q).trans (e2 j q).symm
      · by_cases q2 : j = m
        · rw [q2, g3, g3']
        · have h5 := g4 (j - (m + 1)) (by omega)
          have h6 := g4' (j - (m + 1)) (by omega)
          rw [show m + 1 + (j - (m + 1)) = j by omega] at h5 h6
          exact h5.trans h6.symm
theorem so_uni {kd sh : Nat → Nat} {n : Nat} {od od2 : Nat → Nat} (hn : n ≤ 16) (h : so kd sh n od) (h2 : so kd sh n od2) : ∀ i, i < n → od i = od2 i := by
  have inj : ∀ x y, x < 16 → y < 16 → ky kd sh x = ky kd sh y → x = y := by
    intro x y hx hy e
    unfold ky at e
    omega
  obtain ⟨a1, a2, a3⟩ := h
  obtain ⟨b1, b2, b3⟩ := h2
  have half : ∀ (od od2 : Nat → Nat), (∀ i, i < n → od i < n) → (∀ p, p < n → ∃ i, i < n ∧ od2 i = p) → (∀ i j, i < j → j < n → ky kd sh (od i) < ky kd sh (od j)) → (∀ i j, i < j → j < n → ky kd sh (od2 i) < ky kd sh (od2 j)) → ∀ i, i < n → (∀ j, j < i → od j = od2 j) → ¬ ky kd sh (od i) < ky kd sh (od2 i) := by
    intro od od2 c1 c2 c3 c4 i hi ih lt
    obtain ⟨j, hj, ej⟩ := c2 (od i) (c1 i hi)
    rcases Nat.lt_trichotomy j i with q | q | q
    · have := c3 j i q hi
      rw [ih j q, ej] at this
      omega
    · rw [q] at ej; rw [ej] at lt; omega
    · have := c4 i j q hj
      rw [ej] at this
      omega
  intro i
  induction i using Nat.strongRecOn with
  | _ i ih =>
    intro hi
    have ih' : ∀ j, j < i → od j = od2 j := fun j hj => ih j hj (by omega)
    have p1 := half od od2 a1 b2 a3 b3 i hi ih'
    have p2 := half od2 od b1 a2 b3 a3 i hi (fun j hj => (ih' j hj).symm)
    exact inj _ _ (by have := a1 i hi; omega) (by have := b1 i hi; omega) (by omega)
theorem aq.sy {q p : qs} (h : aq q p) : aq p q := ⟨h.1.sy, h.2.1.symm, h.2.2.symm⟩
theorem aq.tr {q p r : qs} (h : aq q p) (g : aq p r) : aq q r := ⟨h.1.tr g.1, h.2.1.trans g.2.1, h.2.2.trans g.2.2⟩
theorem aq.rf {q : qs} : aq q q := ⟨ag3.rf, rfl, rfl⟩
theorem sq_cg {R R2 : Nat → Nat → Int32} {kd sh : Nat → Nat} {p : Nat} {q q2 : qs} (hR : R 2 p = R2 2 p ∧ R 3 p = R2 3 p ∧ R 4 p = R2 4 p) (hs : sh p < 8) (h : aq q q2) : (sq R kd sh p q).1 = (sq R2 kd sh p q2).1 ∧ aq (sq R kd sh p q).2 (sq R2 kd sh p q2).2 := by
  unfold sq
  obtain ⟨h1, h2, h3⟩ := h
  rw [hR.1, hR.2.1, hR.2.2, h2, h3]
  exact pf_cg h1 hs
theorem run_uni {R R2 : Nat → Nat → Int32} {kd sh : Nat → Nat} {od od2 : Nat → Nat} {o o2 : Nat → Int32} {n : Nat} (hE : ∀ j, j < n → R 2 (od j) = R2 2 (od j) ∧ R 3 (od j) = R2 3 (od j) ∧ R 4 (od j) = R2 4 (od j)) (hs : ∀ j, j < n → sh (od j) < 8) (ho : ∀ j, j < n → od j = od2 j) {q q2 : qs} (hq : aq q q2) : ∀ i, i ≤ n → ∀ p p2, run (sq R kd sh) od o i q p → run (sq R2 kd sh) od2 o2 i q2 p2 → aq p p2 ∧ ∀ j, j < i → o j = o2 j
  | 0, _, p, p2, h, h2 => by
    rw [show p = q from h, show p2 = q2 from h2]
    exact ⟨hq, fun j hj => absurd hj (Nat.not_lt_zero j)⟩
  | i + 1, hi, p, p2, h, h2 => by
    obtain ⟨m, a1, a2, a3⟩ := h
    obtain ⟨m2, b1, b2, b3⟩ := h2
    obtain ⟨c1, c2⟩ := run_uni hE hs ho hq i (by omega) m m2 a1 b1
    obtain ⟨d1, d2⟩ := sq_cg (kd := kd) (sh := sh) (hE i (by omega)) (hs i (by omega)) c1
    rw [← ho i (by omega)] at b2 b3
    refine ⟨(a3.tr d2).tr b3.sy, fun j hj => ?_⟩
    by_cases e : j = i
    · rw [e, a2, b2, d1]
    · exact c2 j (by omega)
/-- two heaps that share nothing -/
def dj (a b : ev_H) : Prop := ∀ x, a x = none ∨ b x = none
theorem dj.sy {a b : ev_H} (h : dj a b) : dj b a := fun x => (h x).symm
theorem jn_l {hp hr ho : ev_H} {a : Nat} {c : ev_C} (h : hp a = some c) (d1 : dj hp hr) (d2 : dj hp ho) : ev_jn hp (ev_jn hr ho) a = some c := by
  unfold ev_jn
  rcases d1 a with e | e
  · rw [e] at h; cases h
  · rcases d2 a with e2 | e2
    · rw [e2] at h; cases h
    · rw [e2, e]; exact h
theorem jn_sw {hp hr ho : ev_H} (d : dj hp hr) : ev_jn hp (ev_jn hr ho) = ev_jn hr (ev_jn hp ho) := by
  funext a
  unfold ev_jn
  cases ho a with
  | some x => rfl
  | none =>
    dsimp only
    rcases d a with e | e
    · rw [e]; cases hr a <;> rfl
    · rw [e]; cases hp a <;> rfl
theorem jn_rt {hp hr ho : ev_H} (d : dj hr ho) : ev_jn hp (ev_jn hr ho) = ev_jn (ev_jn hp ho) hr := by
  funext a
  unfold ev_jn
  rcases d a with e | e
  · rw [e]; cases ho a <;> rfl
  · rw [e]
theorem jn_as {hp hr ho : ev_H} : ev_jn hp (ev_jn hr ho) = ev_jn (ev_jn hp hr) ho := by
  funext a
  unfold ev_jn
  cases ho a with
  | some x => rfl
  | none => rfl
theorem dj_jn {a b c : ev_H} (h1 : dj a b) (h2 : dj a c) : dj a (ev_jn b c) := by
  intro x
  rcases h1 x with e | e
  · exact Or.inl e
  · rcases h2 x with e2 | e2
    · exact Or.inl e2
    · refine Or.inr ?_
      unfold ev_jn
      rw [e2]; exact e
theorem dj_f {a b : ev_H} (h : dj a b) : ∀ q x, b q = some x → a q = none := by
  intro q x e
  rcases h q with f | f
  · exact f
  · rw [f] at e; cases e
/-- what a call that was made on a part leaves apart from the rest -/
theorem dj_q {h1 b c : ev_H} (h : ∀ q x, ev_jn b c q = some x → h1 q = none) : dj h1 b ∧ dj h1 c := by
  have key : ∀ q, h1 q = none ∨ (b q = none ∧ c q = none) := by
    intro q
    cases e : ev_jn b c q with
    | some x => exact Or.inl (h q x e)
    | none =>
      unfold ev_jn at e
      cases e2 : c q with
      | some y => rw [e2] at e; cases e
      | none => rw [e2] at e; exact Or.inr ⟨e, rfl⟩
  exact ⟨fun q => (key q).imp id (fun z => z.1), fun q => (key q).imp id (fun z => z.2)⟩
section REL
variable {H h1 : ev_H} {bp : Nat → Nat} {lay : Nat → Nat × Nat} {sa sb ga : Nat → Nat} {tc : Nat}
def PF (H : ev_H) (bp : Nat → Nat) (lay : Nat → Nat × Nat) (sa sb ga : Nat → Nat) (tc : Nat) (P : Nat → Nat → Nat) (fu fd : Nat → Nat) (mem : Nat) (val : Nat → Nat) (ba dn : Nat) (R : Nat → Nat → Int32) (wa ar : Nat) (lv f : Nat → Nat) (len : Nat) : Prop := DW H (bp 4) lay val ∧ BQ H bp lay dn ba 1 ∧ SH H (bp 1) sa P fu fd mem ∧ (∃ Pb fub fdb memb, SH H (bp 2) sb Pb fub fdb memb) ∧ AG H (bp 3) ga R wa ar ∧ LV H bp lv ∧ TX H (bp 5) tc (lay 19).1 f len
def PD (bp sa sb ga : Nat → Nat) : Prop := SX (bp 1) sa (bp 2) sb ∧ SX (bp 2) sb (bp 1) sa ∧ SD sa ∧ SD sb ∧ AD ga
def PV (P : Nat → Nat → Nat) (fu fd : Nat → Nat) (mem : Nat) (val : Nat → Nat) (ba dn : Nat) (R : Nat → Nat → Int32) (wa ar len : Nat) : Prop := (P_ok P ∧ f_ok fu fd ∧ f_b fd ∧ mem < 256) ∧ (ba ≤ 1 ∧ dn ≤ 250 ∧ wa ≤ 16 ∧ ar ≤ 16 ∧ len ≤ 640) ∧ (ba = 0 → mem = 0 ∧ dn = 0) ∧ (val 9 < 2 ^ 512 ∧ val 10 < 2 ^ 512) ∧ (ba = 1 → mem ≠ 0 ∧ dv_ok (val 9) (val 10)) ∧ ∃ kd sh : Nat → Nat, ∀ j, j < wa → R 0 j = nI (kd j) ∧ R 1 j = nI (sh j) ∧ kd j < 9 ∧ sh j < 8
def RE (P : Nat → Nat → Nat) (fu fd : Nat → Nat) (mem : Nat) (val : Nat → Nat) (ba dn : Nat) (R : Nat → Nat → Int32) (wa ar : Nat) (lv f : Nat → Nat) (len : Nat) (I v : Nat → Nat) (Q : Nat → Nat → Nat) (Rr : Nat → Nat → Int32) (lvr fr : Nat → Nat) : Prop := (I 0 = mem ∧ I 1 = ba ∧ I 3 = wa ∧ I 4 = ar ∧ I 5 = dn ∧ I 6 = len) ∧ ag3 Q v (fun s => v (8 + s)) P fu fd ∧ (ba = 1 → v 32 = val 9 ∧ v 33 = val 10) ∧ (∀ a, a < 5 → ∀ j, j < wa → Rr a j = R a j) ∧ (∀ j, j < ar → Rr 5 j = R 6 j ∧ Rr 6 j = R 5 j) ∧ (∀ j, j < dn → lvr j = lv j) ∧ ∀ j, j < len → fr j = f j
def JI (hp hr : ev_H) (bp : Nat → Nat) (lay : Nat → Nat × Nat) (sa sb ga : Nat → Nat) (tc : Nat) (A : Nat → Nat) : Prop := ∃ P fu fd mem val ba dn R wa ar lv f len I v Q Rr lvr fr, PF hp bp lay sa sb ga tc P fu fd mem val ba dn R wa ar lv f len ∧ PV P fu fd mem val ba dn R wa ar len ∧ MS hr A I v Q Rr lvr fr ∧ RE P fu fd mem val ba dn R wa ar lv f len I v Q Rr lvr fr
theorem tx_cf {T rq len : Nat} {f : Nat → Nat} (hF : CF H h1) (h : TX H T tc rq f len) : TX h1 T tc rq f len := ⟨hF _ _ h.1 ⟨⟨fun fs e => (by cases e), fun fs e => (by cases e), fun fs e => (by cases e), fun fs e => (by cases e), fun fs e => (by cases e)⟩, fun fs e => (by cases e), fun fs e => (by cases e)⟩, hF _ _ h.2.1 ⟨⟨fun fs e => (by cases e), fun fs e => (by cases e), fun fs e => (by cases e), fun fs e => (by cases e), fun fs e => (by cases e)⟩, fun fs e => (by cases e), fun fs e => (by cases e)⟩, h.2.2⟩
end REL
