/-! constructors: Agenda, Text -/
def NAk (H0 h : ev_H) (n : Nat) (ga : Nat → Nat) : Prop := (∀ i, i < n → h (ga i) = some (.inl (.int, 16, .inl (fun _ => 0))) ∧ H0 (ga i) = none) ∧ ∀ i j, i < n → j < n → i ≠ j → ga i ≠ ga j
def aset (ga : Nat → Nat) (n g : Nat) : Nat → Nat := fun i => if i = n then g else ga i
section CON2
variable {G : ev_G} {w : Nat} {H H0 h h1 : ev_H} {A g n dd : Nat} {ga : Nat → Nat}
theorem xt_f0 {y : ev_C} (hX : XT H0 h A) (hD : h A = some y) (ha : h g = none) : H0 g = none := by
  cases e : H0 g with
  | none => rfl
  | some x =>
    by_cases r : g = A
    · rw [r, hD] at ha; cases ha
    · have := hX g x e r; rw [ha] at this; cases this
theorem na_step {y : ev_C} (hN : NAk H0 h n ga) (hX : XT H0 h A) (hD : h A = some y) (hg : h g = none) : NAk H0 (ev_up h g (.inl (.int, 16, .inl (fun _ => 0)))) (n + 1) (aset ga n g) ∧ XT H0 (ev_up h g (.inl (.int, 16, .inl (fun _ => 0)))) A ∧ ev_up h g (.inl (.int, 16, .inl (fun _ => 0))) A = some y := by
  have ne : ∀ {a x}, h a = some x → a ≠ g := fun e r => by rw [r, hg] at e; cases e
  have lo : ∀ {i}, i < n → aset ga n g i = ga i := fun hi => if_neg (by omega)
  have at_ : aset ga n g n = g := if_pos rfl
  refine ⟨⟨fun i hi => ?_, fun i j hi hj hij => ?_⟩, fun a x ha hn => ev_nee (ne (hX a x ha hn)) (hX a x ha hn), ev_nee (ne hD) hD⟩
  · by_cases r : i = n
    · rw [r, at_]; exact ⟨ev_eqq, xt_f0 hX hD hg⟩
    · rw [lo (by omega)]
      obtain ⟨b1, b2⟩ := hN.1 i (by omega)
      exact ⟨ev_nee (ne b1) b1, b2⟩
  · by_cases r : i = n
    · have r2 : j < n := by omega
      rw [r, at_, lo r2]
      exact fun e => ne (hN.1 j r2).1 e.symm
    · by_cases r2 : j = n
      · rw [r2, at_, lo (by omega)]
        exact ne (hN.1 i (by omega)).1
      · rw [lo (by omega), lo (by omega)]
        exact hN.2 i j (by omega) (by omega) hij
theorem na_put {ci : Nat} {fs : List Value} {y : ev_C} (hN : NAk H0 h n ga) (hX : XT H0 h A) (hD : h A = some (.inr (ci, fs))) : NAk H0 (ev_up h A y) n ga ∧ XT H0 (ev_up h A y) A := by
  refine ⟨⟨fun i hi => ?_, hN.2⟩, fun a x ha hn => ev_nee hn (hX a x ha hn)⟩
  obtain ⟨b1, b2⟩ := hN.1 i hi
  exact ⟨ev_nee (ne_of b1 hD (fun e => by cases e)) b1, b2⟩
theorem k_ainit (hd : 1 ≤ dd) (hw : 20 ≤ w) (hD : H A = some (.inr (0, [.null, .null, .null, .null, .null, .null, .null, .int 0, .int 0]))) : ev_Ca G dd w m_X0_init [.ref A] H 7 112 (ev_ok (fun r h1 => r = none ∧ ∃ ga, AG h1 A ga (fun _ _ => 0) 0 0 ∧ AD ga ∧ (∀ k, k < 7 → H (ga k) = none) ∧ XT H h1 A)) := by
  obtain ⟨dd, rfl⟩ : ∃ e, dd = e + 1 := ⟨dd - 1, by omega⟩
  refine ⟨by decide +kernel, rfl, ?_⟩
  refine ev_aload_n (pc := 0) dX0_init_0 rfl ?_
  refine ev_objInit (pc := 1) dX0_init_1 oi_X0_1 rfl (by omega) ?_
  have N0 : NAk H H 0 (fun _ => 0) := ⟨fun i hi => absurd hi (Nat.not_lt_zero i), fun i j hi => absurd hi (Nat.not_lt_zero i)⟩
  have X0 : XT H H A := fun a x ha _ => ha
  have D0 := hD
  refine ev_aload_n (pc := 4) dX0_init_4 rfl ?_
  refine ev_bipush (pc := 5) (v := nI 16) dX0_init_5 (by decide) ?_
  refine ev_newi (M := m_X0_init) (pc := 7) (c := 6) (z := 96) (N := 16) dX0_init_7 arI (by decide) (by decide) (by decide) (fun a0 ha0 => ?_)
  obtain ⟨A0, B0, C0⟩ := na_step (g := a0) N0 X0 D0 ha0
  refine ev_putF (pc := 9) dX0_init_9 pF_X0_9 rfl C0 rfl rfl rfl ?_
  refine ev_th (h2 := ev_up (ev_up (H) a0 (.inl (.int, 16, .inl (fun _ => 0)))) A (.inr (0, [.ref a0, .null, .null, .null, .null, .null, .null, .int 0, .int 0]))) rfl ?_
  obtain ⟨N1, X1⟩ := na_put (y := .inr (0, [.ref a0, .null, .null, .null, .null, .null, .null, .int 0, .int 0])) A0 B0 C0
  have D1 : ev_up (ev_up (H) a0 (.inl (.int, 16, .inl (fun _ => 0)))) A (.inr (0, [.ref a0, .null, .null, .null, .null, .null, .null, .int 0, .int 0])) A = some (.inr (0, [.ref a0, .null, .null, .null, .null, .null, .null, .int 0, .int 0])) := ev_eqq
  clear A0 B0 C0
  generalize hg0 : ev_up (ev_up (H) a0 (.inl (.int, 16, .inl (fun _ => 0)))) A (.inr (0, [.ref a0, .null, .null, .null, .null, .null, .null, .int 0, .int 0])) = g0 at *
  refine ev_aload_n (pc := 12) dX0_init_12 rfl ?_
  refine ev_bipush (pc := 13) (v := nI 16) dX0_init_13 (by decide) ?_
  refine ev_newi (M := m_X0_init) (pc := 15) (c := 5) (z := 80) (N := 16) dX0_init_15 arI (by decide) (by decide) (by decide) (fun a1 ha1 => ?_)
  obtain ⟨A1, B1, C1⟩ := na_step (g := a1) N1 X1 D1 ha1
  refine ev_putF (pc := 17) dX0_init_17 pF_X0_13 rfl C1 rfl rfl rfl ?_
  refine ev_th (h2 := ev_up (ev_up (g0) a1 (.inl (.int, 16, .inl (fun _ => 0)))) A (.inr (0, [.ref a0, .ref a1, .null, .null, .null, .null, .null, .int 0, .int 0]))) rfl ?_
  obtain ⟨N2, X2⟩ := na_put (y := .inr (0, [.ref a0, .ref a1, .null, .null, .null, .null, .null, .int 0, .int 0])) A1 B1 C1
  have D2 : ev_up (ev_up (g0) a1 (.inl (.int, 16, .inl (fun _ => 0)))) A (.inr (0, [.ref a0, .ref a1, .null, .null, .null, .null, .null, .int 0, .int 0])) A = some (.inr (0, [.ref a0, .ref a1, .null, .null, .null, .null, .null, .int 0, .int 0])) := ev_eqq
  clear A1 B1 C1
  generalize hg1 : ev_up (ev_up (g0) a1 (.inl (.int, 16, .inl (fun _ => 0)))) A (.inr (0, [.ref a0, .ref a1, .null, .null, .null, .null, .null, .int 0, .int 0])) = g1 at *
  refine ev_aload_n (pc := 20) dX0_init_20 rfl ?_
  refine ev_bipush (pc := 21) (v := nI 16) dX0_init_21 (by decide) ?_
  refine ev_newi (M := m_X0_init) (pc := 23) (c := 4) (z := 64) (N := 16) dX0_init_23 arI (by decide) (by decide) (by decide) (fun a2 ha2 => ?_)
  obtain ⟨A2, B2, C2⟩ := na_step (g := a2) N2 X2 D2 ha2
  refine ev_putF (pc := 25) dX0_init_25 pF_X0_16 rfl C2 rfl rfl rfl ?_
  refine ev_th (h2 := ev_up (ev_up (g1) a2 (.inl (.int, 16, .inl (fun _ => 0)))) A (.inr (0, [.ref a0, .ref a1, .ref a2, .null, .null, .null, .null, .int 0, .int 0]))) rfl ?_
  obtain ⟨N3, X3⟩ := na_put (y := .inr (0, [.ref a0, .ref a1, .ref a2, .null, .null, .null, .null, .int 0, .int 0])) A2 B2 C2
  have D3 : ev_up (ev_up (g1) a2 (.inl (.int, 16, .inl (fun _ => 0)))) A (.inr (0, [.ref a0, .ref a1, .ref a2, .null, .null, .null, .null, .int 0, .int 0])) A = some (.inr (0, [.ref a0, .ref a1, .ref a2, .null, .null, .null, .null, .int 0, .int 0])) := ev_eqq
  clear A2 B2 C2
  generalize hg2 : ev_up (ev_up (g1) a2 (.inl (.int, 16, .inl (fun _ => 0)))) A (.inr (0, [.ref a0, .ref a1, .ref a2, .null, .null, .null, .null, .int 0, .int 0])) = g2 at *
  refine ev_aload_n (pc := 28) dX0_init_28 rfl ?_
  refine ev_bipush (pc := 29) (v := nI 16) dX0_init_29 (by decide) ?_
  refine ev_newi (M := m_X0_init) (pc := 31) (c := 3) (z := 48) (N := 16) dX0_init_31 arI (by decide) (by decide) (by decide) (fun a3 ha3 => ?_)
  obtain ⟨A3, B3, C3⟩ := na_step (g := a3) N3 X3 D3 ha3
  refine ev_putF (pc := 33) dX0_init_33 pF_X0_19 rfl C3 rfl rfl rfl ?_
  refine ev_th (h2 := ev_up (ev_up (g2) a3 (.inl (.int, 16, .inl (fun _ => 0)))) A (.inr (0, [.ref a0, .ref a1, .ref a2, .ref a3, .null, .null, .null, .int 0, .int 0]))) rfl ?_
  obtain ⟨N4, X4⟩ := na_put (y := .inr (0, [.ref a0, .ref a1, .ref a2, .ref a3, .null, .null, .null, .int 0, .int 0])) A3 B3 C3
  have D4 : ev_up (ev_up (g2) a3 (.inl (.int, 16, .inl (fun _ => 0)))) A (.inr (0, [.ref a0, .ref a1, .ref a2, .ref a3, .null, .null, .null, .int 0, .int 0])) A = some (.inr (0, [.ref a0, .ref a1, .ref a2, .ref a3, .null, .null, .null, .int 0, .int 0])) := ev_eqq
  clear A3 B3 C3
  generalize hg3 : ev_up (ev_up (g2) a3 (.inl (.int, 16, .inl (fun _ => 0)))) A (.inr (0, [.ref a0, .ref a1, .ref a2, .ref a3, .null, .null, .null, .int 0, .int 0])) = g3 at *
  refine ev_aload_n (pc := 36) dX0_init_36 rfl ?_
  refine ev_bipush (pc := 37) (v := nI 16) dX0_init_37 (by decide) ?_
  refine ev_newi (M := m_X0_init) (pc := 39) (c := 2) (z := 32) (N := 16) dX0_init_39 arI (by decide) (by decide) (by decide) (fun a4 ha4 => ?_)
  obtain ⟨A4, B4, C4⟩ := na_step (g := a4) N4 X4 D4 ha4
  refine ev_putF (pc := 41) dX0_init_41 pF_X0_22 rfl C4 rfl rfl rfl ?_
  refine ev_th (h2 := ev_up (ev_up (g3) a4 (.inl (.int, 16, .inl (fun _ => 0)))) A (.inr (0, [.ref a0, .ref a1, .ref a2, .ref a3, .ref a4, .null, .null, .int 0, .int 0]))) rfl ?_
  obtain ⟨N5, X5⟩ := na_put (y := .inr (0, [.ref a0, .ref a1, .ref a2, .ref a3, .ref a4, .null, .null, .int 0, .int 0])) A4 B4 C4
  have D5 : ev_up (ev_up (g3) a4 (.inl (.int, 16, .inl (fun _ => 0)))) A (.inr (0, [.ref a0, .ref a1, .ref a2, .ref a3, .ref a4, .null, .null, .int 0, .int 0])) A = some (.inr (0, [.ref a0, .ref a1, .ref a2, .ref a3, .ref a4, .null, .null, .int 0, .int 0])) := ev_eqq
  clear A4 B4 C4
  generalize hg4 : ev_up (ev_up (g3) a4 (.inl (.int, 16, .inl (fun _ => 0)))) A (.inr (0, [.ref a0, .ref a1, .ref a2, .ref a3, .ref a4, .null, .null, .int 0, .int 0])) = g4 at *
  refine ev_aload_n (pc := 44) dX0_init_44 rfl ?_
  refine ev_bipush (pc := 45) (v := nI 16) dX0_init_45 (by decide) ?_
  refine ev_newi (M := m_X0_init) (pc := 47) (c := 1) (z := 16) (N := 16) dX0_init_47 arI (by decide) (by decide) (by decide) (fun a5 ha5 => ?_)
  obtain ⟨A5, B5, C5⟩ := na_step (g := a5) N5 X5 D5 ha5
  refine ev_putF (pc := 49) dX0_init_49 pF_X0_25 rfl C5 rfl rfl rfl ?_
  refine ev_th (h2 := ev_up (ev_up (g4) a5 (.inl (.int, 16, .inl (fun _ => 0)))) A (.inr (0, [.ref a0, .ref a1, .ref a2, .ref a3, .ref a4, .ref a5, .null, .int 0, .int 0]))) rfl ?_
  obtain ⟨N6, X6⟩ := na_put (y := .inr (0, [.ref a0, .ref a1, .ref a2, .ref a3, .ref a4, .ref a5, .null, .int 0, .int 0])) A5 B5 C5
  have D6 : ev_up (ev_up (g4) a5 (.inl (.int, 16, .inl (fun _ => 0)))) A (.inr (0, [.ref a0, .ref a1, .ref a2, .ref a3, .ref a4, .ref a5, .null, .int 0, .int 0])) A = some (.inr (0, [.ref a0, .ref a1, .ref a2, .ref a3, .ref a4, .ref a5, .null, .int 0, .int 0])) := ev_eqq
  clear A5 B5 C5
  generalize hg5 : ev_up (ev_up (g4) a5 (.inl (.int, 16, .inl (fun _ => 0)))) A (.inr (0, [.ref a0, .ref a1, .ref a2, .ref a3, .ref a4, .ref a5, .null, .int 0, .int 0])) = g5 at *
  refine ev_aload_n (pc := 52) dX0_init_52 rfl ?_
  refine ev_bipush (pc := 53) (v := nI 16) dX0_init_53 (by decide) ?_
  refine ev_newi (M := m_X0_init) (pc := 55) (c := 0) (z := 0) (N := 16) dX0_init_55 arI (by decide) (by decide) (by decide) (fun a6 ha6 => ?_)
  obtain ⟨A6, B6, C6⟩ := na_step (g := a6) N6 X6 D6 ha6
  refine ev_putF (pc := 57) dX0_init_57 pF_X0_28 rfl C6 rfl rfl rfl ?_
  refine ev_th (h2 := ev_up (ev_up (g5) a6 (.inl (.int, 16, .inl (fun _ => 0)))) A (.inr (0, [.ref a0, .ref a1, .ref a2, .ref a3, .ref a4, .ref a5, .ref a6, .int 0, .int 0]))) rfl ?_
  obtain ⟨N7, X7⟩ := na_put (y := .inr (0, [.ref a0, .ref a1, .ref a2, .ref a3, .ref a4, .ref a5, .ref a6, .int 0, .int 0])) A6 B6 C6
  have D7 : ev_up (ev_up (g5) a6 (.inl (.int, 16, .inl (fun _ => 0)))) A (.inr (0, [.ref a0, .ref a1, .ref a2, .ref a3, .ref a4, .ref a5, .ref a6, .int 0, .int 0])) A = some (.inr (0, [.ref a0, .ref a1, .ref a2, .ref a3, .ref a4, .ref a5, .ref a6, .int 0, .int 0])) := ev_eqq
  clear A6 B6 C6
  generalize hg6 : ev_up (ev_up (g5) a6 (.inl (.int, 16, .inl (fun _ => 0)))) A (.inr (0, [.ref a0, .ref a1, .ref a2, .ref a3, .ref a4, .ref a5, .ref a6, .int 0, .int 0])) = g6 at *
  exact ev_vret (pc := 60) dX0_init_60 rfl ⟨rfl, _, ⟨D7, fun k hk => (N7.1 k hk).1⟩, fun a b ha hb hab => N7.2 a b ha hb hab, fun k hk => (N7.1 k hk).2, X7⟩
theorem k_tinit {T : Nat} (hd : 2 ≤ dd) (hw : 45 ≤ w) (hD : H T = some (.inr (4, [.null, .null, .int 0]))) : ev_Ca G dd w m_X6_init [.ref T] H 3 714 (ev_ok (fun r h1 => r = none ∧ ∃ tc lay, TX h1 T tc (lay 0).1 (fun _ => 0) 0 ∧ H tc = none ∧ NWk H h1 1 lay ∧ XT H h1 T)) := by
  obtain ⟨dd, rfl⟩ : ∃ e, dd = e + 1 := ⟨dd - 1, by omega⟩
  refine ⟨by decide +kernel, rfl, ?_⟩
  refine ev_aload_n (pc := 0) dX6_init_0 rfl ?_
  refine ev_objInit (pc := 1) dX6_init_1 oi_X6_3 rfl (by omega) ?_
  refine ev_aload_n (pc := 4) dX6_init_4 rfl ?_
  refine ev_sipush (pc := 5) (v := nI 640) dX6_init_5 (by decide) ?_
  refine ev_newc (M := m_X6_init) (pc := 8) (c := 2) (z := 74) (N := 640) dX6_init_8 arC (by decide) (by decide) (by decide) (fun tc htc => ?_)
  have n1 : T ≠ tc := fun e => by rw [e, htc] at hD; cases hD
  refine ev_putF (pc := 10) dX6_init_10 pF_X6_11 rfl (ev_nee n1 hD) rfl rfl rfl ?_
  refine ev_th (h2 := ev_up (ev_up H tc (.inl (.char, 640, .inl (fun _ => 0)))) T (.inr (4, [.ref tc, .null, .int 0]))) rfl ?_
  have E1 : ev_up (ev_up H tc (.inl (.char, 640, .inl (fun _ => 0)))) T (.inr (4, [.ref tc, .null, .int 0])) T = some (.inr (4, [.ref tc, .null, .int 0])) := ev_eqq
  have E2 : ev_up (ev_up H tc (.inl (.char, 640, .inl (fun _ => 0)))) T (.inr (4, [.ref tc, .null, .int 0])) tc = some (.inl (.char, 640, .inl (fun _ => 0))) := ev_nee (Ne.symm n1) ev_eqq
  have X1 : XT H (ev_up (ev_up H tc (.inl (.char, 640, .inl (fun _ => 0)))) T (.inr (4, [.ref tc, .null, .int 0]))) T := fun a x ha hn => ev_nee hn (ev_nee (fun e => by rw [e, htc] at ha; cases ha) ha)
  generalize ev_up (ev_up H tc (.inl (.char, 640, .inl (fun _ => 0)))) T (.inr (4, [.ref tc, .null, .int 0])) = g at *
  have N0 : NWk H g 0 (fun _ => (0, 0)) := ⟨fun i hi => absurd hi (Nat.not_lt_zero i), fun i j hi => absurd hi (Nat.not_lt_zero i)⟩
  refine ev_aload_n (pc := 13) dX6_init_13 rfl ?_
  refine ev_new (M := m_X6_init) (N := 2) (pc := 14) (c := 1) (z := 72) dX6_init_14 n_X6_15 (fun q hq => ?_)
  refine ev_dup (pc := 17) dX6_init_17 rfl ?_
  refine ev_callIN (pc := 18) (As := []) (c1 := 1) (z1 := 72) dX6_init_18 cin_X6_17 rfl rfl ⟨by show 19 + 1 ≤ w; omega, show ev_Ca _ _ (w - 20) _ _ _ _ _ _ from k_winit (by omega) (by omega) ev_eqq⟩ rfl rfl (fun r g0 hp => ?_)
  obtain ⟨rfl, d, u, v, x⟩ := hp
  have y : d ≠ q := fun e => by rw [e, ev_eqq] at u; cases u
  have u' : g d = none := (ev_nee y rfl).symm.trans u
  obtain ⟨A0, B0, C0⟩ := nw_step (q := q) (d := d) N0 X1 E1 hq u' v (fun a a1 a2 => (x a a1 a2).trans (ev_nee a1 rfl))
  have E3 : g0 tc = some (.inl (.char, 640, .inl (fun _ => 0))) := by
    rw [x tc (fun e => by rw [e, hq] at E2; cases E2) (fun e => by rw [e, u'] at E2; cases E2)]
    exact ev_nee (fun e => by rw [e, hq] at E2; cases E2) E2
  refine ev_putF (pc := 21) dX6_init_21 pF_X6_18 rfl C0 rfl rfl rfl ?_
  obtain ⟨N1, X2⟩ := nw_put (y := .inr (4, [.ref tc, .ref q, .int 0])) A0 B0 C0 (by decide)
  exact ev_vret (pc := 24) dX6_init_24 rfl ⟨rfl, tc, _, ⟨ev_eqq, ev_nee (ne_of E3 C0 (fun e => by cases e)) E3, fun _ => (by show 0 < 128; decide)⟩, htc, N1, X2⟩
end CON2
