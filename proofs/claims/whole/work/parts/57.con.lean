/-! constructors: Whole, Fraction, Desk -/
theorem arI : Cond.arrayClass .int ∈ ev_ws := ev_at 122 (by decide +kernel) rfl
theorem arL : Cond.arrayClass .long ∈ ev_ws := ev_at 123 (by decide +kernel) rfl
theorem arC : Cond.arrayClass .char ∈ ev_ws := ev_at 238 (by decide +kernel) rfl
/-- all that was is as it was, but the object itself -/
def XT (H h1 : ev_H) (D : Nat) : Prop := ∀ a x, H a = some x → a ≠ D → h1 a = some x
/-- n new Wholes, all 0, all apart -/
def NWk (H0 h : ev_H) (n : Nat) (lay : Nat → Nat × Nat) : Prop := (∀ i, i < n → wi h (lay i) 0 ∧ H0 (lay i).1 = none ∧ H0 (lay i).2 = none) ∧ ∀ i j, i < n → j < n → i ≠ j → (lay i).1 ≠ (lay j).1 ∧ (lay i).2 ≠ (lay j).2
def lset (lay : Nat → Nat × Nat) (n : Nat) (p : Nat × Nat) : Nat → Nat × Nat := fun i => if i = n then p else lay i
section CON
variable {G : ev_G} {w : Nat} {H H0 h h1 : ev_H} {D q d n dd : Nat} {lay : Nat → Nat × Nat}
theorem wi_keep {p : Nat × Nat} {v : Nat} (hw : wi h p v) (e1 : h1 p.1 = h p.1) (e2 : h1 p.2 = h p.2) : wi h1 p v := by
  obtain ⟨g, n, a1, a2, a3⟩ := hw
  exact ⟨g, n, e1.trans a1, e2.trans a2, a3⟩
theorem wi_some {p : Nat × Nat} {v : Nat} (hw : wi h p v) : h p.1 ≠ none ∧ h p.2 ≠ none := by
  obtain ⟨g, n, a1, a2, -⟩ := hw
  rw [a1, a2]
  exact ⟨fun q => (by cases q), fun q => (by cases q)⟩
theorem nw_step {y : ev_C} (hN : NWk H0 h n lay) (hX : XT H0 h D) (hD : h D = some y) (hq : h q = none) (hdn : h d = none) (hw : wi h1 (q, d) 0) (hF : ∀ a, a ≠ q → a ≠ d → h1 a = h a) : NWk H0 h1 (n + 1) (lset lay n (q, d)) ∧ XT H0 h1 D ∧ h1 D = some y := by
  have ne : ∀ {a x}, h a = some x → a ≠ q ∧ a ≠ d := fun e => ⟨fun r => (by rw [r, hq] at e; cases e), fun r => (by rw [r, hdn] at e; cases e)⟩
  have f0 : ∀ {a}, h a = none → H0 a = none := by
    intro a ha
    cases e : H0 a with
    | none => rfl
    | some x =>
      by_cases r : a = D
      · rw [r, hD] at ha; cases ha
      · have := hX a x e r; rw [ha] at this; cases this
  have lo : ∀ {i}, i < n → lset lay n (q, d) i = lay i := fun hi => if_neg (by omega)
  have at_ : lset lay n (q, d) n = (q, d) := if_pos rfl
  have old : ∀ i, i < n → (lay i).1 ≠ q ∧ (lay i).2 ≠ d := by
    intro i hi
    have := wi_some (hN.1 i hi).1
    exact ⟨fun r => by rw [r] at this; exact this.1 hq, fun r => by rw [r] at this; exact this.2 hdn⟩
  refine ⟨⟨fun i hi => ?_, fun i j hi hj hij => ?_⟩, fun a x ha hn => ?_, ?_⟩
  · by_cases r : i = n
    · rw [r, at_]; exact ⟨hw, f0 hq, f0 hdn⟩
    · rw [lo (by omega)]
      obtain ⟨b1, b2⟩ := hN.1 i (by omega)
      obtain ⟨g, m, c1, c2, c3⟩ := id b1
      exact ⟨wi_keep b1 (hF _ (ne c1).1 (ne c1).2) (hF _ (ne c2).1 (ne c2).2), b2⟩
  · by_cases r : i = n
    · have r2 : j < n := by omega
      rw [r, at_, lo r2]
      exact ⟨fun e => (old j r2).1 e.symm, fun e => (old j r2).2 e.symm⟩
    · by_cases r2 : j = n
      · rw [r2, at_, lo (by omega)]
        exact old i (by omega)
      · rw [lo (by omega), lo (by omega)]
        exact hN.2 i j (by omega) (by omega) hij
  · have := hX a x ha hn
    rw [hF a (ne this).1 (ne this).2]; exact this
  · rw [hF D (ne hD).1 (ne hD).2]; exact hD
theorem nw_put {ci : Nat} {fs : List Value} {y : ev_C} (hN : NWk H0 h n lay) (hX : XT H0 h D) (hD : h D = some (.inr (ci, fs))) (hc : ci ≠ 5) : NWk H0 (ev_up h D y) n lay ∧ XT H0 (ev_up h D y) D := by
  refine ⟨⟨fun i hi => ?_, hN.2⟩, fun a x ha hn => ev_nee hn (hX a x ha hn)⟩
  obtain ⟨b1, b2⟩ := hN.1 i hi
  obtain ⟨g, m, c1, c2, c3⟩ := id b1
  exact ⟨wi_keep b1 (ev_nee (ne_of c1 hD (fun e => hc (by cases e; rfl))) rfl) (ev_nee (ne_of c2 hD (fun e => by cases e)) rfl), b2⟩
theorem k_winit (hd : 1 ≤ dd) (hw : 20 ≤ w) (hq : H q = some (.inr (5, [.null, .int 0]))) : ev_Ca G dd w m_X7_init [.ref q] H 1 72 (ev_ok (fun r h1 => r = none ∧ ∃ d, H d = none ∧ wi h1 (q, d) 0 ∧ ∀ a, a ≠ q → a ≠ d → h1 a = H a)) := by
  obtain ⟨dd, rfl⟩ : ∃ e, dd = e + 1 := ⟨dd - 1, by omega⟩
  refine ⟨by decide +kernel, rfl, ?_⟩
  refine ev_aload_n (pc := 0) dX7_init_0 rfl ?_
  refine ev_objInit (pc := 1) dX7_init_1 oi_X7_3 rfl (by omega) ?_
  refine ev_aload_n (pc := 4) dX7_init_4 rfl ?_
  refine ev_bipush (pc := 5) (v := nI 72) dX7_init_5 (by decide) ?_
  refine ev_newi (pc := 7) (c := 0) (z := 0) (N := 72) dX7_init_7 arI (by decide) (by decide) (by decide) (fun d hdn => ?_)
  have hqd : q ≠ d := fun e => by rw [e, hdn] at hq; cases hq
  refine ev_putF (pc := 9) dX7_init_9 pF_X7_9 rfl (ev_nee hqd hq) rfl rfl rfl ?_
  refine ev_vret (pc := 12) dX7_init_12 rfl ⟨rfl, d, hdn, ⟨fun _ => 0, 0, ev_eqq, ev_nee (Ne.symm hqd) ev_eqq, ?_⟩, fun a a1 a2 => ev_nee a1 (ev_nee a2 rfl)⟩
  exact mb_is0 (fun _ => rfl)
theorem k_finit {F : Nat} (hd : 2 ≤ dd) (hw : 45 ≤ w) (hD : H F = some (.inr (2, [.null, .null]))) : ev_Ca G dd w m_X2_init [.ref F] H 4 148 (ev_ok (fun r h1 => r = none ∧ ∃ lay, h1 F = some (.inr (2, [.ref (lay 0).1, .ref (lay 1).1])) ∧ NWk H h1 2 lay ∧ XT H h1 F)) := by
  obtain ⟨dd, rfl⟩ : ∃ e, dd = e + 1 := ⟨dd - 1, by omega⟩
  refine ⟨by decide +kernel, rfl, ?_⟩
  refine ev_aload_n (pc := 0) dX2_init_0 rfl ?_
  refine ev_objInit (pc := 1) dX2_init_1 oi_X2_1 rfl (by omega) ?_
  have N0 : NWk H H 0 (fun _ => (0, 0)) := ⟨fun i hi => absurd hi (Nat.not_lt_zero i), fun i j hi => absurd hi (Nat.not_lt_zero i)⟩
  have X0 : XT H H F := fun a x ha _ => ha
  have D0 := hD
  refine ev_aload_n (pc := 4) dX2_init_4 rfl ?_
  refine ev_new (M := m_X2_init) (N := 2) (pc := 5) (c := 3) (z := 146) dX2_init_5 n_X2_7 (fun q0 hq0 => ?_)
  refine ev_dup (pc := 8) dX2_init_8 rfl ?_
  refine ev_callIN (pc := 9) (As := []) (c1 := 1) (z1 := 72) dX2_init_9 cin_X2_9 rfl rfl ⟨by show 19 + 1 ≤ w; omega, show ev_Ca _ _ (w - 20) _ _ _ _ _ _ from k_winit (by omega) (by omega) ev_eqq⟩ rfl rfl (fun r g0 hp => ?_)
  obtain ⟨rfl, d0, u0, v0, x0⟩ := hp
  have y0 : d0 ≠ q0 := fun e => by rw [e, ev_eqq] at u0; cases u0
  obtain ⟨A0, B0, C0⟩ := nw_step (q := q0) (d := d0) N0 X0 D0 hq0 ((ev_nee y0 rfl).symm.trans u0) v0 (fun a a1 a2 => (x0 a a1 a2).trans (ev_nee a1 rfl))
  refine ev_putF (pc := 12) dX2_init_12 pF_X2_10 rfl C0 rfl rfl rfl ?_
  refine ev_th (h2 := ev_up g0 F (.inr (2, [.ref q0, .null]))) rfl ?_
  obtain ⟨N1, X1⟩ := nw_put (y := .inr (2, [.ref q0, .null])) A0 B0 C0 (by decide)
  have D1 : ev_up g0 F (.inr (2, [.ref q0, .null])) F = some (.inr (2, [.ref q0, .null])) := ev_eqq
  refine ev_aload_n (pc := 15) dX2_init_15 rfl ?_
  refine ev_new (M := m_X2_init) (N := 2) (pc := 16) (c := 1) (z := 72) dX2_init_16 n_X2_7 (fun q1 hq1 => ?_)
  refine ev_dup (pc := 19) dX2_init_19 rfl ?_
  refine ev_callIN (pc := 20) (As := []) (c1 := 1) (z1 := 72) dX2_init_20 cin_X2_9 rfl rfl ⟨by show 19 + 1 ≤ w; omega, show ev_Ca _ _ (w - 20) _ _ _ _ _ _ from k_winit (by omega) (by omega) ev_eqq⟩ rfl rfl (fun r g1 hp => ?_)
  obtain ⟨rfl, d1, u1, v1, x1⟩ := hp
  have y1 : d1 ≠ q1 := fun e => by rw [e, ev_eqq] at u1; cases u1
  obtain ⟨A1, B1, C1⟩ := nw_step (q := q1) (d := d1) N1 X1 D1 hq1 ((ev_nee y1 rfl).symm.trans u1) v1 (fun a a1 a2 => (x1 a a1 a2).trans (ev_nee a1 rfl))
  refine ev_putF (pc := 23) dX2_init_23 pF_X2_16 rfl C1 rfl rfl rfl ?_
  refine ev_th (h2 := ev_up g1 F (.inr (2, [.ref q0, .ref q1]))) rfl ?_
  obtain ⟨N2, X2⟩ := nw_put (y := .inr (2, [.ref q0, .ref q1])) A1 B1 C1 (by decide)
  have D2 : ev_up g1 F (.inr (2, [.ref q0, .ref q1])) F = some (.inr (2, [.ref q0, .ref q1])) := ev_eqq
  exact ev_vret (pc := 26) dX2_init_26 rfl ⟨rfl, _, ev_eqq, N2, X2⟩
theorem k_dinit {E : Nat} (hd : 2 ≤ dd) (hw : 45 ≤ w) (hD : H E = some (.inr (1, [.null, .null, .null, .null, .null, .null, .null, .null, .null]))) : ev_Ca G dd w m_X1_init [.ref E] H 18 666 (ev_ok (fun r h1 => r = none ∧ ∃ lay, h1 E = some (.inr (1, dkf lay)) ∧ NWk H h1 9 lay ∧ XT H h1 E)) := by
  obtain ⟨dd, rfl⟩ : ∃ e, dd = e + 1 := ⟨dd - 1, by omega⟩
  refine ⟨by decide +kernel, rfl, ?_⟩
  refine ev_aload_n (pc := 0) dX1_init_0 rfl ?_
  refine ev_objInit (pc := 1) dX1_init_1 oi_X1_1 rfl (by omega) ?_
  have N0 : NWk H H 0 (fun _ => (0, 0)) := ⟨fun i hi => absurd hi (Nat.not_lt_zero i), fun i j hi => absurd hi (Nat.not_lt_zero i)⟩
  have X0 : XT H H E := fun a x ha _ => ha
  have D0 := hD
  refine ev_aload_n (pc := 4) dX1_init_4 rfl ?_
  refine ev_new (M := m_X1_init) (N := 2) (pc := 5) (c := 17) (z := 664) dX1_init_5 n_X1_7 (fun q0 hq0 => ?_)
  refine ev_dup (pc := 8) dX1_init_8 rfl ?_
  refine ev_callIN (pc := 9) (As := []) (c1 := 1) (z1 := 72) dX1_init_9 cin_X1_9 rfl rfl ⟨by show 19 + 1 ≤ w; omega, show ev_Ca _ _ (w - 20) _ _ _ _ _ _ from k_winit (by omega) (by omega) ev_eqq⟩ rfl rfl (fun r g0 hp => ?_)
  obtain ⟨rfl, d0, u0, v0, x0⟩ := hp
  have y0 : d0 ≠ q0 := fun e => by rw [e, ev_eqq] at u0; cases u0
  obtain ⟨A0, B0, C0⟩ := nw_step (q := q0) (d := d0) N0 X0 D0 hq0 ((ev_nee y0 rfl).symm.trans u0) v0 (fun a a1 a2 => (x0 a a1 a2).trans (ev_nee a1 rfl))
  refine ev_putF (pc := 12) dX1_init_12 pF_X1_10 rfl C0 rfl rfl rfl ?_
  refine ev_th (h2 := ev_up g0 E (.inr (1, [.ref q0, .null, .null, .null, .null, .null, .null, .null, .null]))) rfl ?_
  obtain ⟨N1, X1⟩ := nw_put (y := .inr (1, [.ref q0, .null, .null, .null, .null, .null, .null, .null, .null])) A0 B0 C0 (by decide)
  have D1 : ev_up g0 E (.inr (1, [.ref q0, .null, .null, .null, .null, .null, .null, .null, .null])) E = some (.inr (1, [.ref q0, .null, .null, .null, .null, .null, .null, .null, .null])) := ev_eqq
  refine ev_aload_n (pc := 15) dX1_init_15 rfl ?_
  refine ev_new (M := m_X1_init) (N := 2) (pc := 16) (c := 15) (z := 590) dX1_init_16 n_X1_7 (fun q1 hq1 => ?_)
  refine ev_dup (pc := 19) dX1_init_19 rfl ?_
  refine ev_callIN (pc := 20) (As := []) (c1 := 1) (z1 := 72) dX1_init_20 cin_X1_9 rfl rfl ⟨by show 19 + 1 ≤ w; omega, show ev_Ca _ _ (w - 20) _ _ _ _ _ _ from k_winit (by omega) (by omega) ev_eqq⟩ rfl rfl (fun r g1 hp => ?_)
  obtain ⟨rfl, d1, u1, v1, x1⟩ := hp
  have y1 : d1 ≠ q1 := fun e => by rw [e, ev_eqq] at u1; cases u1
  obtain ⟨A1, B1, C1⟩ := nw_step (q := q1) (d := d1) N1 X1 D1 hq1 ((ev_nee y1 rfl).symm.trans u1) v1 (fun a a1 a2 => (x1 a a1 a2).trans (ev_nee a1 rfl))
  refine ev_putF (pc := 23) dX1_init_23 pF_X1_16 rfl C1 rfl rfl rfl ?_
  refine ev_th (h2 := ev_up g1 E (.inr (1, [.ref q0, .ref q1, .null, .null, .null, .null, .null, .null, .null]))) rfl ?_
  obtain ⟨N2, X2⟩ := nw_put (y := .inr (1, [.ref q0, .ref q1, .null, .null, .null, .null, .null, .null, .null])) A1 B1 C1 (by decide)
  have D2 : ev_up g1 E (.inr (1, [.ref q0, .ref q1, .null, .null, .null, .null, .null, .null, .null])) E = some (.inr (1, [.ref q0, .ref q1, .null, .null, .null, .null, .null, .null, .null])) := ev_eqq
  refine ev_aload_n (pc := 26) dX1_init_26 rfl ?_
  refine ev_new (M := m_X1_init) (N := 2) (pc := 27) (c := 13) (z := 516) dX1_init_27 n_X1_7 (fun q2 hq2 => ?_)
  refine ev_dup (pc := 30) dX1_init_30 rfl ?_
  refine ev_callIN (pc := 31) (As := []) (c1 := 1) (z1 := 72) dX1_init_31 cin_X1_9 rfl rfl ⟨by show 19 + 1 ≤ w; omega, show ev_Ca _ _ (w - 20) _ _ _ _ _ _ from k_winit (by omega) (by omega) ev_eqq⟩ rfl rfl (fun r g2 hp => ?_)
  obtain ⟨rfl, d2, u2, v2, x2⟩ := hp
  have y2 : d2 ≠ q2 := fun e => by rw [e, ev_eqq] at u2; cases u2
  obtain ⟨A2, B2, C2⟩ := nw_step (q := q2) (d := d2) N2 X2 D2 hq2 ((ev_nee y2 rfl).symm.trans u2) v2 (fun a a1 a2 => (x2 a a1 a2).trans (ev_nee a1 rfl))
  refine ev_putF (pc := 34) dX1_init_34 pF_X1_19 rfl C2 rfl rfl rfl ?_
  refine ev_th (h2 := ev_up g2 E (.inr (1, [.ref q0, .ref q1, .ref q2, .null, .null, .null, .null, .null, .null]))) rfl ?_
  obtain ⟨N3, X3⟩ := nw_put (y := .inr (1, [.ref q0, .ref q1, .ref q2, .null, .null, .null, .null, .null, .null])) A2 B2 C2 (by decide)
  have D3 : ev_up g2 E (.inr (1, [.ref q0, .ref q1, .ref q2, .null, .null, .null, .null, .null, .null])) E = some (.inr (1, [.ref q0, .ref q1, .ref q2, .null, .null, .null, .null, .null, .null])) := ev_eqq
  refine ev_aload_n (pc := 37) dX1_init_37 rfl ?_
  refine ev_new (M := m_X1_init) (N := 2) (pc := 38) (c := 11) (z := 442) dX1_init_38 n_X1_7 (fun q3 hq3 => ?_)
  refine ev_dup (pc := 41) dX1_init_41 rfl ?_
  refine ev_callIN (pc := 42) (As := []) (c1 := 1) (z1 := 72) dX1_init_42 cin_X1_9 rfl rfl ⟨by show 19 + 1 ≤ w; omega, show ev_Ca _ _ (w - 20) _ _ _ _ _ _ from k_winit (by omega) (by omega) ev_eqq⟩ rfl rfl (fun r g3 hp => ?_)
  obtain ⟨rfl, d3, u3, v3, x3⟩ := hp
  have y3 : d3 ≠ q3 := fun e => by rw [e, ev_eqq] at u3; cases u3
  obtain ⟨A3, B3, C3⟩ := nw_step (q := q3) (d := d3) N3 X3 D3 hq3 ((ev_nee y3 rfl).symm.trans u3) v3 (fun a a1 a2 => (x3 a a1 a2).trans (ev_nee a1 rfl))
  refine ev_putF (pc := 45) dX1_init_45 pF_X1_22 rfl C3 rfl rfl rfl ?_
  refine ev_th (h2 := ev_up g3 E (.inr (1, [.ref q0, .ref q1, .ref q2, .ref q3, .null, .null, .null, .null, .null]))) rfl ?_
  obtain ⟨N4, X4⟩ := nw_put (y := .inr (1, [.ref q0, .ref q1, .ref q2, .ref q3, .null, .null, .null, .null, .null])) A3 B3 C3 (by decide)
  have D4 : ev_up g3 E (.inr (1, [.ref q0, .ref q1, .ref q2, .ref q3, .null, .null, .null, .null, .null])) E = some (.inr (1, [.ref q0, .ref q1, .ref q2, .ref q3, .null, .null, .null, .null, .null])) := ev_eqq
  refine ev_aload_n (pc := 48) dX1_init_48 rfl ?_
  refine ev_new (M := m_X1_init) (N := 2) (pc := 49) (c := 9) (z := 368) dX1_init_49 n_X1_7 (fun q4 hq4 => ?_)
  refine ev_dup (pc := 52) dX1_init_52 rfl ?_
  refine ev_callIN (pc := 53) (As := []) (c1 := 1) (z1 := 72) dX1_init_53 cin_X1_9 rfl rfl ⟨by show 19 + 1 ≤ w; omega, show ev_Ca _ _ (w - 20) _ _ _ _ _ _ from k_winit (by omega) (by omega) ev_eqq⟩ rfl rfl (fun r g4 hp => ?_)
  obtain ⟨rfl, d4, u4, v4, x4⟩ := hp
  have y4 : d4 ≠ q4 := fun e => by rw [e, ev_eqq] at u4; cases u4
  obtain ⟨A4, B4, C4⟩ := nw_step (q := q4) (d := d4) N4 X4 D4 hq4 ((ev_nee y4 rfl).symm.trans u4) v4 (fun a a1 a2 => (x4 a a1 a2).trans (ev_nee a1 rfl))
  refine ev_putF (pc := 56) dX1_init_56 pF_X1_25 rfl C4 rfl rfl rfl ?_
  refine ev_th (h2 := ev_up g4 E (.inr (1, [.ref q0, .ref q1, .ref q2, .ref q3, .ref q4, .null, .null, .null, .null]))) rfl ?_
  obtain ⟨N5, X5⟩ := nw_put (y := .inr (1, [.ref q0, .ref q1, .ref q2, .ref q3, .ref q4, .null, .null, .null, .null])) A4 B4 C4 (by decide)
  have D5 : ev_up g4 E (.inr (1, [.ref q0, .ref q1, .ref q2, .ref q3, .ref q4, .null, .null, .null, .null])) E = some (.inr (1, [.ref q0, .ref q1, .ref q2, .ref q3, .ref q4, .null, .null, .null, .null])) := ev_eqq
  refine ev_aload_n (pc := 59) dX1_init_59 rfl ?_
  refine ev_new (M := m_X1_init) (N := 2) (pc := 60) (c := 7) (z := 294) dX1_init_60 n_X1_7 (fun q5 hq5 => ?_)
  refine ev_dup (pc := 63) dX1_init_63 rfl ?_
  refine ev_callIN (pc := 64) (As := []) (c1 := 1) (z1 := 72) dX1_init_64 cin_X1_9 rfl rfl ⟨by show 19 + 1 ≤ w; omega, show ev_Ca _ _ (w - 20) _ _ _ _ _ _ from k_winit (by omega) (by omega) ev_eqq⟩ rfl rfl (fun r g5 hp => ?_)
  obtain ⟨rfl, d5, u5, v5, x5⟩ := hp
  have y5 : d5 ≠ q5 := fun e => by rw [e, ev_eqq] at u5; cases u5
  obtain ⟨A5, B5, C5⟩ := nw_step (q := q5) (d := d5) N5 X5 D5 hq5 ((ev_nee y5 rfl).symm.trans u5) v5 (fun a a1 a2 => (x5 a a1 a2).trans (ev_nee a1 rfl))
  refine ev_putF (pc := 67) dX1_init_67 pF_X1_28 rfl C5 rfl rfl rfl ?_
  refine ev_th (h2 := ev_up g5 E (.inr (1, [.ref q0, .ref q1, .ref q2, .ref q3, .ref q4, .ref q5, .null, .null, .null]))) rfl ?_
  obtain ⟨N6, X6⟩ := nw_put (y := .inr (1, [.ref q0, .ref q1, .ref q2, .ref q3, .ref q4, .ref q5, .null, .null, .null])) A5 B5 C5 (by decide)
  have D6 : ev_up g5 E (.inr (1, [.ref q0, .ref q1, .ref q2, .ref q3, .ref q4, .ref q5, .null, .null, .null])) E = some (.inr (1, [.ref q0, .ref q1, .ref q2, .ref q3, .ref q4, .ref q5, .null, .null, .null])) := ev_eqq
  refine ev_aload_n (pc := 70) dX1_init_70 rfl ?_
  refine ev_new (M := m_X1_init) (N := 2) (pc := 71) (c := 5) (z := 220) dX1_init_71 n_X1_7 (fun q6 hq6 => ?_)
  refine ev_dup (pc := 74) dX1_init_74 rfl ?_
  refine ev_callIN (pc := 75) (As := []) (c1 := 1) (z1 := 72) dX1_init_75 cin_X1_9 rfl rfl ⟨by show 19 + 1 ≤ w; omega, show ev_Ca _ _ (w - 20) _ _ _ _ _ _ from k_winit (by omega) (by omega) ev_eqq⟩ rfl rfl (fun r g6 hp => ?_)
  obtain ⟨rfl, d6, u6, v6, x6⟩ := hp
  have y6 : d6 ≠ q6 := fun e => by rw [e, ev_eqq] at u6; cases u6
  obtain ⟨A6, B6, C6⟩ := nw_step (q := q6) (d := d6) N6 X6 D6 hq6 ((ev_nee y6 rfl).symm.trans u6) v6 (fun a a1 a2 => (x6 a a1 a2).trans (ev_nee a1 rfl))
  refine ev_putF (pc := 78) dX1_init_78 pF_X1_31 rfl C6 rfl rfl rfl ?_
  refine ev_th (h2 := ev_up g6 E (.inr (1, [.ref q0, .ref q1, .ref q2, .ref q3, .ref q4, .ref q5, .ref q6, .null, .null]))) rfl ?_
  obtain ⟨N7, X7⟩ := nw_put (y := .inr (1, [.ref q0, .ref q1, .ref q2, .ref q3, .ref q4, .ref q5, .ref q6, .null, .null])) A6 B6 C6 (by decide)
  have D7 : ev_up g6 E (.inr (1, [.ref q0, .ref q1, .ref q2, .ref q3, .ref q4, .ref q5, .ref q6, .null, .null])) E = some (.inr (1, [.ref q0, .ref q1, .ref q2, .ref q3, .ref q4, .ref q5, .ref q6, .null, .null])) := ev_eqq
  refine ev_aload_n (pc := 81) dX1_init_81 rfl ?_
  refine ev_new (M := m_X1_init) (N := 2) (pc := 82) (c := 3) (z := 146) dX1_init_82 n_X1_7 (fun q7 hq7 => ?_)
  refine ev_dup (pc := 85) dX1_init_85 rfl ?_
  refine ev_callIN (pc := 86) (As := []) (c1 := 1) (z1 := 72) dX1_init_86 cin_X1_9 rfl rfl ⟨by show 19 + 1 ≤ w; omega, show ev_Ca _ _ (w - 20) _ _ _ _ _ _ from k_winit (by omega) (by omega) ev_eqq⟩ rfl rfl (fun r g7 hp => ?_)
  obtain ⟨rfl, d7, u7, v7, x7⟩ := hp
  have y7 : d7 ≠ q7 := fun e => by rw [e, ev_eqq] at u7; cases u7
  obtain ⟨A7, B7, C7⟩ := nw_step (q := q7) (d := d7) N7 X7 D7 hq7 ((ev_nee y7 rfl).symm.trans u7) v7 (fun a a1 a2 => (x7 a a1 a2).trans (ev_nee a1 rfl))
  refine ev_putF (pc := 89) dX1_init_89 pF_X1_34 rfl C7 rfl rfl rfl ?_
  refine ev_th (h2 := ev_up g7 E (.inr (1, [.ref q0, .ref q1, .ref q2, .ref q3, .ref q4, .ref q5, .ref q6, .ref q7, .null]))) rfl ?_
  obtain ⟨N8, X8⟩ := nw_put (y := .inr (1, [.ref q0, .ref q1, .ref q2, .ref q3, .ref q4, .ref q5, .ref q6, .ref q7, .null])) A7 B7 C7 (by decide)
  have D8 : ev_up g7 E (.inr (1, [.ref q0, .ref q1, .ref q2, .ref q3, .ref q4, .ref q5, .ref q6, .ref q7, .null])) E = some (.inr (1, [.ref q0, .ref q1, .ref q2, .ref q3, .ref q4, .ref q5, .ref q6, .ref q7, .null])) := ev_eqq
  refine ev_aload_n (pc := 92) dX1_init_92 rfl ?_
  refine ev_new (M := m_X1_init) (N := 2) (pc := 93) (c := 1) (z := 72) dX1_init_93 n_X1_7 (fun q8 hq8 => ?_)
  refine ev_dup (pc := 96) dX1_init_96 rfl ?_
  refine ev_callIN (pc := 97) (As := []) (c1 := 1) (z1 := 72) dX1_init_97 cin_X1_9 rfl rfl ⟨by show 19 + 1 ≤ w; omega, show ev_Ca _ _ (w - 20) _ _ _ _ _ _ from k_winit (by omega) (by omega) ev_eqq⟩ rfl rfl (fun r g8 hp => ?_)
  obtain ⟨rfl, d8, u8, v8, x8⟩ := hp
  have y8 : d8 ≠ q8 := fun e => by rw [e, ev_eqq] at u8; cases u8
  obtain ⟨A8, B8, C8⟩ := nw_step (q := q8) (d := d8) N8 X8 D8 hq8 ((ev_nee y8 rfl).symm.trans u8) v8 (fun a a1 a2 => (x8 a a1 a2).trans (ev_nee a1 rfl))
  refine ev_putF (pc := 100) dX1_init_100 pF_X1_37 rfl C8 rfl rfl rfl ?_
  refine ev_th (h2 := ev_up g8 E (.inr (1, [.ref q0, .ref q1, .ref q2, .ref q3, .ref q4, .ref q5, .ref q6, .ref q7, .ref q8]))) rfl ?_
  obtain ⟨N9, X9⟩ := nw_put (y := .inr (1, [.ref q0, .ref q1, .ref q2, .ref q3, .ref q4, .ref q5, .ref q6, .ref q7, .ref q8])) A8 B8 C8 (by decide)
  have D9 : ev_up g8 E (.inr (1, [.ref q0, .ref q1, .ref q2, .ref q3, .ref q4, .ref q5, .ref q6, .ref q7, .ref q8])) E = some (.inr (1, [.ref q0, .ref q1, .ref q2, .ref q3, .ref q4, .ref q5, .ref q6, .ref q7, .ref q8])) := ev_eqq
  exact ev_vret (pc := 103) dX1_init_103 rfl ⟨rfl, _, ev_eqq, N9, X9⟩
end CON
