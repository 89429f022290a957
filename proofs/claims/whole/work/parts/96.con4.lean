/-! constructors: IndexBureau -/
def ladd (l : Nat → Nat × Nat) (n : Nat) (l2 : Nat → Nat × Nat) : Nat → Nat × Nat := fun i => if i < n then l i else l2 (i - n)
def lpi (l : Nat → Nat × Nat) : Nat → Nat × Nat := fun i => l (if i < 9 then i else if i < 19 then i + 1 else 9)
section CON4
variable {G : ev_G} {w dd : Nat} {H g g' g1 : ev_H} {B q : Nat} {c : ev_C} {fs fs2 : List Value} {n m : Nat} {lay lay2 : Nat → Nat × Nat}
theorem XT.tr {a b d : ev_H} (h1 : XT a b B) (h2 : XT b d B) : XT a d B := fun x y hx hn => h2 x y (h1 x y hx hn) hn
theorem b_step (hB : g B = some (.inr (6, fs))) (hq : g q = none) (hX : XT (ev_up g q c) g1 q) : g1 B = some (.inr (6, fs)) ∧ XT g (ev_up g1 B (.inr (6, fs2))) B := by
  have hne : B ≠ q := fun e => by rw [e, hq] at hB; cases hB
  exact ⟨hX B _ (ev_nee hne hB) hne, fun a x ha hn => ev_nee hn (hX a x (ev_nee (fun e => by rw [e, hq] at ha; cases ha) ha) (fun e => by rw [e, hq] at ha; cases ha))⟩
theorem sh_xt {S : Nat} {sa : Nat → Nat} {P : Nat → Nat → Nat} {fu fd : Nat → Nat} {mem : Nat} (hB : g B = some (.inr (6, fs))) (hX : XT g g' B) (h : SH g S sa P fu fd mem) : SH g' S sa P fu fd mem := by
  obtain ⟨a1, a2, a3, a4, a5⟩ := h
  exact ⟨hX _ _ a1 (ne_of a1 hB (fun q => by cases q)), hX _ _ a2 (ne_of a2 hB (fun q => by cases q)), fun k hk => hX _ _ (a3 k hk) (ne_of (a3 k hk) hB (fun q => by cases q)), hX _ _ a4 (ne_of a4 hB (fun q => by cases q)), hX _ _ a5 (ne_of a5 hB (fun q => by cases q))⟩
theorem ag_xt {A : Nat} {ga : Nat → Nat} {R : Nat → Nat → Int32} {wa ar : Nat} (hB : g B = some (.inr (6, fs))) (hX : XT g g' B) (h : AG g A ga R wa ar) : AG g' A ga R wa ar := ⟨hX _ _ h.1 (ne_of h.1 hB (fun q => by cases q)), fun k hk => hX _ _ (h.2 k hk) (ne_of (h.2 k hk) hB (fun q => by cases q))⟩
theorem tx_xt {T tc rq len : Nat} {f : Nat → Nat} (hB : g B = some (.inr (6, fs))) (hX : XT g g' B) (h : TX g T tc rq f len) : TX g' T tc rq f len := ⟨hX _ _ h.1 (ne_of h.1 hB (fun q => by cases q)), hX _ _ h.2.1 (ne_of h.2.1 hB (fun q => by cases q)), h.2.2⟩
theorem wi_xt {p : Nat × Nat} {v : Nat} (hB : g B = some (.inr (6, fs))) (hX : XT g g' B) (h : wi g p v) : wi g' p v := by
  obtain ⟨f, k, a1, a2, a3⟩ := h
  exact ⟨f, k, hX _ _ a1 (ne_of a1 hB (fun q => by cases q)), hX _ _ a2 (ne_of a2 hB (fun q => by cases q)), a3⟩
theorem nw_xt (hB : g B = some (.inr (6, fs))) (hX : XT g g' B) (h : NWk H g n lay) : NWk H g' n lay := ⟨fun i hi => ⟨wi_xt hB hX (h.1 i hi).1, (h.1 i hi).2⟩, h.2⟩
theorem nw_add (hN : NWk H g n lay) (h0 : XT H g B) (hB : g B = some (.inr (6, fs))) (hq : g q = none) (hN2 : NWk (ev_up g q c) g1 m lay2) (hX : XT (ev_up g q c) g1 q) : NWk H (ev_up g1 B (.inr (6, fs2))) (n + m) (ladd lay n lay2) := by
  obtain ⟨b1, b2⟩ := b_step (fs2 := fs2) hB hq hX
  have hN' := nw_xt hB b2 hN
  have fr : ∀ a, ev_up g q c a = none → g a = none ∧ H a = none := by
    intro a ha
    have e1 : a ≠ q := fun e => by rw [e, ev_eqq] at ha; cases ha
    have e2 : g a = none := (ev_nee e1 rfl).symm.trans ha
    refine ⟨e2, ?_⟩
    cases e3 : H a with
    | none => rfl
    | some x =>
      by_cases r : a = B
      · rw [r, hB] at e2; cases e2
      · have := h0 a x e3 r; rw [e2] at this; cases this
  have w2 : ∀ i, i < m → wi (ev_up g1 B (.inr (6, fs2))) (lay2 i) 0 := by
    intro i hi
    obtain ⟨f, k, a1, a2, a3⟩ := (hN2.1 i hi).1
    exact ⟨f, k, ev_nee (ne_of a1 b1 (fun q => by cases q)) a1, ev_nee (ne_of a2 b1 (fun q => by cases q)) a2, a3⟩
  have cross : ∀ i j, i < n → j < m → (lay i).1 ≠ (lay2 j).1 ∧ (lay i).2 ≠ (lay2 j).2 := by
    intro i j hi hj
    have s := wi_some (hN.1 i hi).1
    have f2 := (hN2.1 j hj).2
    exact ⟨fun e => s.1 (by rw [e]; exact (fr _ f2.1).1), fun e => s.2 (by rw [e]; exact (fr _ f2.2).1)⟩
  refine ⟨fun i hi => ?_, fun i j hi hj hij => ?_⟩
  · unfold ladd
    by_cases r : i < n
    · rw [if_pos r]; exact hN'.1 i r
    · rw [if_neg r]
      have f2 := (hN2.1 (i - n) (by omega)).2
      exact ⟨w2 _ (by omega), (fr _ f2.1).2, (fr _ f2.2).2⟩
  · unfold ladd
    by_cases r : i < n
    · rw [if_pos r]
      by_cases t : j < n
      · rw [if_pos t]; exact hN.2 i j r t hij
      · rw [if_neg t]; exact cross i (j - n) r (by omega)
    · rw [if_neg r]
      by_cases t : j < n
      · rw [if_pos t]
        have := cross j (i - n) t (by omega)
        exact ⟨Ne.symm this.1, Ne.symm this.2⟩
      · rw [if_neg t]; exact hN2.2 (i - n) (j - n) (by omega) (by omega) (by omega)
theorem sx_of {S S2 : Nat} {sa sb : Nat → Nat} {P : Nat → Nat → Nat} {fu fd : Nat → Nat} {mem : Nat} (h : SH g S sa P fu fd mem) (h2 : g S2 = none) (hn : ∀ j, j ≤ 5 → g (sb j) = none) : SX S sa S2 sb ∧ SX S2 sb S sa := by
  have so : ∀ a, a = S ∨ (∃ k, k ≤ 5 ∧ a = sa k) → g a ≠ none := by
    intro a ha
    obtain ⟨a1, a2, a3, a4, a5⟩ := h
    rcases ha with rfl | ⟨k, hk, rfl⟩
    · rw [a1]; exact fun q => by cases q
    · match k, hk with
      | 0, _ => rw [a2]; exact fun q => by cases q
      | 1, _ => rw [a3 0 (by decide)]; exact fun q => by cases q
      | 2, _ => rw [a3 1 (by decide)]; exact fun q => by cases q
      | 3, _ => rw [a3 2 (by decide)]; exact fun q => by cases q
      | 4, _ => rw [a4]; exact fun q => by cases q
      | 5, _ => rw [a5]; exact fun q => by cases q
  have ne : ∀ a b, (a = S ∨ ∃ k, k ≤ 5 ∧ a = sa k) → g b = none → b ≠ a := fun a b ha hb e => so a ha (by rw [← e]; exact hb)
  refine ⟨⟨ne S S2 (Or.inl rfl) h2, fun k _ k2 => ne _ S2 (Or.inr ⟨k, k2, rfl⟩) h2, fun j hj => ⟨ne S _ (Or.inl rfl) (hn j hj), fun k _ k2 => ne _ _ (Or.inr ⟨k, k2, rfl⟩) (hn j hj)⟩⟩, ⟨Ne.symm (ne S S2 (Or.inl rfl) h2), fun k _ k2 => Ne.symm (ne S _ (Or.inl rfl) (hn k k2)), fun j hj => ⟨Ne.symm (ne _ S2 (Or.inr ⟨j, hj, rfl⟩) h2), fun k _ k2 => Ne.symm (ne _ _ (Or.inr ⟨j, hj, rfl⟩) (hn k k2))⟩⟩⟩
theorem k_binit (hd : 4 ≤ dd) (hw : 100 ≤ w) (hD : H B = some (.inr (6, [.null, .null, .null, .null, .null, .null, .null, .null, .null, .null, .null, .int 0, .int 0, .int 0]))) : ev_Ca G dd w m_X8_init [.ref B] H 71 2607 (ev_ok (fun r h1 => r = none ∧ ∃ bp lay sa sb ga tc P fu fd val R lv f, bp 0 = B ∧ PF h1 bp lay sa sb ga tc P fu fd 0 val 0 0 R 0 0 lv f 0 ∧ PD bp sa sb ga ∧ (∀ k, k < 3 → ∀ j, j < 8 → P k j = 1) ∧ (∀ j, j < 8 → fu j = 1 ∧ fd j = 1) ∧ val 9 = 0 ∧ val 10 = 0 ∧ XT H h1 B)) := by
  obtain ⟨dd, rfl⟩ : ∃ e, dd = e + 1 := ⟨dd - 1, by omega⟩
  refine ⟨by decide +kernel, rfl, ?_⟩
  refine ev_aload_n (pc := 0) dX8_init_0 rfl ?_
  refine ev_objInit (pc := 1) dX8_init_1 oi_X8_1 rfl (by omega) ?_
  have N_0 : NWk H H 0 (fun _ => (0, 0)) := ⟨fun i hi => absurd hi (Nat.not_lt_zero i), fun i j hi => absurd hi (Nat.not_lt_zero i)⟩
  have T_0 : XT H H B := fun a x h _ => h
  refine ev_aload_n (pc := 4) dX8_init_4 rfl ?_
  refine ev_new (M := m_X8_init) (N := 4) (pc := 5) (c := 70) (z := 2603) dX8_init_5 n_X8_7 (fun q1 hq1 => ?_)
  refine ev_dup (pc := 8) dX8_init_8 rfl ?_
  refine ev_callI (pc := 9) (As := []) (c1 := 6) (z1 := 43) dX8_init_9 ci_X8_9 rfl rfl ⟨by show 19 + 2 ≤ w; omega, show ev_Ca _ _ (w - 21) _ _ _ _ _ _ from k_Sinit (by omega) (by omega) ev_eqq⟩ rfl rfl (fun r h1 hp => ?_)
  obtain ⟨rfl, sa1, P1, fu1, fd1, hS1, hSD1, hP1, hf1, hn1, hx1⟩ := hp
  obtain ⟨b1, y1⟩ := b_step (fs2 := [.ref q1, .null, .null, .null, .null, .null, .null, .null, .null, .null, .null, .int 0, .int 0, .int 0]) hD hq1 hx1
  have N_1 := nw_xt hD y1 N_0
  have T_1 := T_0.tr y1
  have B1 : ev_up h1 B (.inr (6, [.ref q1, .null, .null, .null, .null, .null, .null, .null, .null, .null, .null, .int 0, .int 0, .int 0])) B = some (.inr (6, [.ref q1, .null, .null, .null, .null, .null, .null, .null, .null, .null, .null, .int 0, .int 0, .int 0])) := ev_eqq
  have hS1' : SH (ev_up h1 B (.inr (6, [.ref q1, .null, .null, .null, .null, .null, .null, .null, .null, .null, .null, .int 0, .int 0, .int 0]))) q1 sa1 P1 fu1 fd1 0 := sh_xt (B := B) b1 (fun a x ha hn => ev_nee hn ha) hS1
  refine ev_putF (pc := 12) dX8_init_12 pF_X8_10 rfl b1 rfl rfl rfl ?_
  refine ev_th (h2 := ev_up h1 B (.inr (6, [.ref q1, .null, .null, .null, .null, .null, .null, .null, .null, .null, .null, .int 0, .int 0, .int 0]))) rfl ?_
  clear hS1 b1 hx1
  generalize ev_up h1 B (.inr (6, [.ref q1, .null, .null, .null, .null, .null, .null, .null, .null, .null, .null, .int 0, .int 0, .int 0])) = g1 at *
  refine ev_aload_n (pc := 15) dX8_init_15 rfl ?_
  refine ev_new (M := m_X8_init) (N := 4) (pc := 16) (c := 63) (z := 2556) dX8_init_16 n_X8_7 (fun q2 hq2 => ?_)
  refine ev_dup (pc := 19) dX8_init_19 rfl ?_
  refine ev_callI (pc := 20) (As := []) (c1 := 6) (z1 := 43) dX8_init_20 ci_X8_9 rfl rfl ⟨by show 19 + 2 ≤ w; omega, show ev_Ca _ _ (w - 21) _ _ _ _ _ _ from k_Sinit (by omega) (by omega) ev_eqq⟩ rfl rfl (fun r h2 hp => ?_)
  obtain ⟨rfl, sa2, P2, fu2, fd2, hS2, hSD2, hP2, hf2, hn2, hx2⟩ := hp
  obtain ⟨b2, y2⟩ := b_step (fs2 := [.ref q1, .ref q2, .null, .null, .null, .null, .null, .null, .null, .null, .null, .int 0, .int 0, .int 0]) B1 hq2 hx2
  have N_2 := nw_xt B1 y2 N_1
  have T_2 := T_1.tr y2
  have B2 : ev_up h2 B (.inr (6, [.ref q1, .ref q2, .null, .null, .null, .null, .null, .null, .null, .null, .null, .int 0, .int 0, .int 0])) B = some (.inr (6, [.ref q1, .ref q2, .null, .null, .null, .null, .null, .null, .null, .null, .null, .int 0, .int 0, .int 0])) := ev_eqq
  have hS2' : SH (ev_up h2 B (.inr (6, [.ref q1, .ref q2, .null, .null, .null, .null, .null, .null, .null, .null, .null, .int 0, .int 0, .int 0]))) q2 sa2 P2 fu2 fd2 0 := sh_xt (B := B) b2 (fun a x ha hn => ev_nee hn ha) hS2
  obtain ⟨sx1, sx2⟩ := sx_of (S2 := q2) (sb := sa2) hS1' hq2 (fun j hj => by
    have e1 := hn2 j hj
    have e2 : sa2 j ≠ q2 := fun e => by rw [e, ev_eqq] at e1; cases e1
    exact (ev_nee e2 rfl).symm.trans e1)
  refine ev_putF (pc := 23) dX8_init_23 pF_X8_16 rfl b2 rfl rfl rfl ?_
  refine ev_th (h2 := ev_up h2 B (.inr (6, [.ref q1, .ref q2, .null, .null, .null, .null, .null, .null, .null, .null, .null, .int 0, .int 0, .int 0]))) rfl ?_
  clear hS2 b2 hx2 hn2
  generalize ev_up h2 B (.inr (6, [.ref q1, .ref q2, .null, .null, .null, .null, .null, .null, .null, .null, .null, .int 0, .int 0, .int 0])) = g2 at *
  refine ev_aload_n (pc := 26) dX8_init_26 rfl ?_
  refine ev_new (M := m_X8_init) (N := 9) (pc := 27) (c := 56) (z := 2504) dX8_init_27 n_X8_19 (fun q3 hq3 => ?_)
  refine ev_dup (pc := 30) dX8_init_30 rfl ?_
  refine ev_callIN (pc := 31) (As := []) (c1 := 7) (z1 := 112) dX8_init_31 cin_X8_21 rfl rfl ⟨by show 19 + 1 ≤ w; omega, show ev_Ca _ _ (w - 20) _ _ _ _ _ _ from k_ainit (by omega) (by omega) ev_eqq⟩ rfl rfl (fun r h3 hp => ?_)
  obtain ⟨rfl, ga, hA3, hAD, hn3, hx3⟩ := hp
  obtain ⟨b3, y3⟩ := b_step (fs2 := [.ref q1, .ref q2, .ref q3, .null, .null, .null, .null, .null, .null, .null, .null, .int 0, .int 0, .int 0]) B2 hq3 hx3
  have N_3 := nw_xt B2 y3 N_2
  have T_3 := T_2.tr y3
  have B3 : ev_up h3 B (.inr (6, [.ref q1, .ref q2, .ref q3, .null, .null, .null, .null, .null, .null, .null, .null, .int 0, .int 0, .int 0])) B = some (.inr (6, [.ref q1, .ref q2, .ref q3, .null, .null, .null, .null, .null, .null, .null, .null, .int 0, .int 0, .int 0])) := ev_eqq
  have hA3' := ag_xt (B := B) (g' := ev_up h3 B (.inr (6, [.ref q1, .ref q2, .ref q3, .null, .null, .null, .null, .null, .null, .null, .null, .int 0, .int 0, .int 0]))) b3 (fun a x ha hn => ev_nee hn ha) hA3
  refine ev_putF (pc := 34) dX8_init_34 pF_X8_22 rfl b3 rfl rfl rfl ?_
  refine ev_th (h2 := ev_up h3 B (.inr (6, [.ref q1, .ref q2, .ref q3, .null, .null, .null, .null, .null, .null, .null, .null, .int 0, .int 0, .int 0]))) rfl ?_
  clear hA3 b3 hx3
  generalize ev_up h3 B (.inr (6, [.ref q1, .ref q2, .ref q3, .null, .null, .null, .null, .null, .null, .null, .null, .int 0, .int 0, .int 0])) = g3 at *
  refine ev_aload_n (pc := 37) dX8_init_37 rfl ?_
  refine ev_new (M := m_X8_init) (N := 9) (pc := 38) (c := 48) (z := 2383) dX8_init_38 n_X8_26 (fun q4 hq4 => ?_)
  refine ev_dup (pc := 41) dX8_init_41 rfl ?_
  refine ev_callIN (pc := 42) (As := []) (c1 := 18) (z1 := 666) dX8_init_42 cin_X8_28 rfl rfl ⟨by show 19 + 1 ≤ w; omega, show ev_Ca _ _ (w - 20) _ _ _ _ _ _ from k_dinit (by omega) (by omega) ev_eqq⟩ rfl rfl (fun r h4 hp => ?_)
  obtain ⟨rfl, l4, hDk, hw4, hx4⟩ := hp
  obtain ⟨b4, y4⟩ := b_step (fs2 := [.ref q1, .ref q2, .ref q3, .ref q4, .null, .null, .null, .null, .null, .null, .null, .int 0, .int 0, .int 0]) B3 hq4 hx4
  have N_4 := nw_add (fs2 := [.ref q1, .ref q2, .ref q3, .ref q4, .null, .null, .null, .null, .null, .null, .null, .int 0, .int 0, .int 0]) N_3 T_3 B3 hq4 hw4 hx4
  have T_4 := T_3.tr y4
  have B4 : ev_up h4 B (.inr (6, [.ref q1, .ref q2, .ref q3, .ref q4, .null, .null, .null, .null, .null, .null, .null, .int 0, .int 0, .int 0])) B = some (.inr (6, [.ref q1, .ref q2, .ref q3, .ref q4, .null, .null, .null, .null, .null, .null, .null, .int 0, .int 0, .int 0])) := ev_eqq
  have hDk' : ev_up h4 B (.inr (6, [.ref q1, .ref q2, .ref q3, .ref q4, .null, .null, .null, .null, .null, .null, .null, .int 0, .int 0, .int 0])) q4 = some (.inr (1, dkf l4)) := ev_nee (ne_of hDk b4 (fun q => by cases q)) hDk
  refine ev_putF (pc := 45) dX8_init_45 pF_X8_29 rfl b4 rfl rfl rfl ?_
  refine ev_th (h2 := ev_up h4 B (.inr (6, [.ref q1, .ref q2, .ref q3, .ref q4, .null, .null, .null, .null, .null, .null, .null, .int 0, .int 0, .int 0]))) rfl ?_
  clear hDk b4 hx4 hw4
  generalize ev_up h4 B (.inr (6, [.ref q1, .ref q2, .ref q3, .ref q4, .null, .null, .null, .null, .null, .null, .null, .int 0, .int 0, .int 0])) = g4 at *
  refine ev_aload_n (pc := 48) dX8_init_48 rfl ?_
  refine ev_new (M := m_X8_init) (N := 3) (pc := 49) (c := 29) (z := 1714) dX8_init_49 n_X8_33 (fun q5 hq5 => ?_)
  refine ev_dup (pc := 52) dX8_init_52 rfl ?_
  refine ev_callIN (pc := 53) (As := []) (c1 := 3) (z1 := 714) dX8_init_53 cin_X8_35 rfl rfl ⟨by show 19 + 1 ≤ w; omega, show ev_Ca _ _ (w - 20) _ _ _ _ _ _ from k_tinit (by omega) (by omega) ev_eqq⟩ rfl rfl (fun r h5 hp => ?_)
  obtain ⟨rfl, tc, l5, hT5, hn5, hw5, hx5⟩ := hp
  obtain ⟨b5, y5⟩ := b_step (fs2 := [.ref q1, .ref q2, .ref q3, .ref q4, .ref q5, .null, .null, .null, .null, .null, .null, .int 0, .int 0, .int 0]) B4 hq5 hx5
  have N_5 := nw_add (fs2 := [.ref q1, .ref q2, .ref q3, .ref q4, .ref q5, .null, .null, .null, .null, .null, .null, .int 0, .int 0, .int 0]) N_4 T_4 B4 hq5 hw5 hx5
  have T_5 := T_4.tr y5
  have B5 : ev_up h5 B (.inr (6, [.ref q1, .ref q2, .ref q3, .ref q4, .ref q5, .null, .null, .null, .null, .null, .null, .int 0, .int 0, .int 0])) B = some (.inr (6, [.ref q1, .ref q2, .ref q3, .ref q4, .ref q5, .null, .null, .null, .null, .null, .null, .int 0, .int 0, .int 0])) := ev_eqq
  have hT5' := tx_xt (B := B) (g' := ev_up h5 B (.inr (6, [.ref q1, .ref q2, .ref q3, .ref q4, .ref q5, .null, .null, .null, .null, .null, .null, .int 0, .int 0, .int 0]))) b5 (fun a x ha hn => ev_nee hn ha) hT5
  refine ev_putF (pc := 56) dX8_init_56 pF_X8_36 rfl b5 rfl rfl rfl ?_
  refine ev_th (h2 := ev_up h5 B (.inr (6, [.ref q1, .ref q2, .ref q3, .ref q4, .ref q5, .null, .null, .null, .null, .null, .null, .int 0, .int 0, .int 0]))) rfl ?_
  clear hT5 b5 hx5 hw5
  generalize ev_up h5 B (.inr (6, [.ref q1, .ref q2, .ref q3, .ref q4, .ref q5, .null, .null, .null, .null, .null, .null, .int 0, .int 0, .int 0])) = g5 at *
  refine ev_aload_n (pc := 59) dX8_init_59 rfl ?_
  refine ev_new (M := m_X8_init) (N := 2) (pc := 60) (c := 25) (z := 998) dX8_init_60 n_X8_40 (fun q6 hq6 => ?_)
  refine ev_dup (pc := 63) dX8_init_63 rfl ?_
  refine ev_callIN (pc := 64) (As := []) (c1 := 4) (z1 := 148) dX8_init_64 cin_X8_42 rfl rfl ⟨by show 19 + 1 ≤ w; omega, show ev_Ca _ _ (w - 20) _ _ _ _ _ _ from k_finit (by omega) (by omega) ev_eqq⟩ rfl rfl (fun r h6 hp => ?_)
  obtain ⟨rfl, l6, hF6, hw6, hx6⟩ := hp
  obtain ⟨b6, y6⟩ := b_step (fs2 := [.ref q1, .ref q2, .ref q3, .ref q4, .ref q5, .ref q6, .null, .null, .null, .null, .null, .int 0, .int 0, .int 0]) B5 hq6 hx6
  have N_6 := nw_add (fs2 := [.ref q1, .ref q2, .ref q3, .ref q4, .ref q5, .ref q6, .null, .null, .null, .null, .null, .int 0, .int 0, .int 0]) N_5 T_5 B5 hq6 hw6 hx6
  have T_6 := T_5.tr y6
  have B6 : ev_up h6 B (.inr (6, [.ref q1, .ref q2, .ref q3, .ref q4, .ref q5, .ref q6, .null, .null, .null, .null, .null, .int 0, .int 0, .int 0])) B = some (.inr (6, [.ref q1, .ref q2, .ref q3, .ref q4, .ref q5, .ref q6, .null, .null, .null, .null, .null, .int 0, .int 0, .int 0])) := ev_eqq
  have hF6' : ev_up h6 B (.inr (6, [.ref q1, .ref q2, .ref q3, .ref q4, .ref q5, .ref q6, .null, .null, .null, .null, .null, .int 0, .int 0, .int 0])) q6 = some (.inr (2, [.ref (l6 0).1, .ref (l6 1).1])) := ev_nee (ne_of hF6 b6 (fun q => by cases q)) hF6
  refine ev_putF (pc := 67) dX8_init_67 pF_X8_43 rfl b6 rfl rfl rfl ?_
  refine ev_th (h2 := ev_up h6 B (.inr (6, [.ref q1, .ref q2, .ref q3, .ref q4, .ref q5, .ref q6, .null, .null, .null, .null, .null, .int 0, .int 0, .int 0]))) rfl ?_
  clear hF6 b6 hx6 hw6
  generalize ev_up h6 B (.inr (6, [.ref q1, .ref q2, .ref q3, .ref q4, .ref q5, .ref q6, .null, .null, .null, .null, .null, .int 0, .int 0, .int 0])) = g6 at *
  refine ev_aload_n (pc := 70) dX8_init_70 rfl ?_
  refine ev_new (M := m_X8_init) (N := 2) (pc := 71) (c := 20) (z := 848) dX8_init_71 n_X8_40 (fun q7 hq7 => ?_)
  refine ev_dup (pc := 74) dX8_init_74 rfl ?_
  refine ev_callIN (pc := 75) (As := []) (c1 := 4) (z1 := 148) dX8_init_75 cin_X8_42 rfl rfl ⟨by show 19 + 1 ≤ w; omega, show ev_Ca _ _ (w - 20) _ _ _ _ _ _ from k_finit (by omega) (by omega) ev_eqq⟩ rfl rfl (fun r h7 hp => ?_)
  obtain ⟨rfl, l7, hF7, hw7, hx7⟩ := hp
  obtain ⟨b7, y7⟩ := b_step (fs2 := [.ref q1, .ref q2, .ref q3, .ref q4, .ref q5, .ref q6, .ref q7, .null, .null, .null, .null, .int 0, .int 0, .int 0]) B6 hq7 hx7
  have N_7 := nw_add (fs2 := [.ref q1, .ref q2, .ref q3, .ref q4, .ref q5, .ref q6, .ref q7, .null, .null, .null, .null, .int 0, .int 0, .int 0]) N_6 T_6 B6 hq7 hw7 hx7
  have T_7 := T_6.tr y7
  have B7 : ev_up h7 B (.inr (6, [.ref q1, .ref q2, .ref q3, .ref q4, .ref q5, .ref q6, .ref q7, .null, .null, .null, .null, .int 0, .int 0, .int 0])) B = some (.inr (6, [.ref q1, .ref q2, .ref q3, .ref q4, .ref q5, .ref q6, .ref q7, .null, .null, .null, .null, .int 0, .int 0, .int 0])) := ev_eqq
  have hF7' : ev_up h7 B (.inr (6, [.ref q1, .ref q2, .ref q3, .ref q4, .ref q5, .ref q6, .ref q7, .null, .null, .null, .null, .int 0, .int 0, .int 0])) q7 = some (.inr (2, [.ref (l7 0).1, .ref (l7 1).1])) := ev_nee (ne_of hF7 b7 (fun q => by cases q)) hF7
  refine ev_putF (pc := 78) dX8_init_78 pF_X8_47 rfl b7 rfl rfl rfl ?_
  refine ev_th (h2 := ev_up h7 B (.inr (6, [.ref q1, .ref q2, .ref q3, .ref q4, .ref q5, .ref q6, .ref q7, .null, .null, .null, .null, .int 0, .int 0, .int 0]))) rfl ?_
  clear hF7 b7 hx7 hw7
  generalize ev_up h7 B (.inr (6, [.ref q1, .ref q2, .ref q3, .ref q4, .ref q5, .ref q6, .ref q7, .null, .null, .null, .null, .int 0, .int 0, .int 0])) = g7 at *
  refine ev_aload_n (pc := 81) dX8_init_81 rfl ?_
  refine ev_new (M := m_X8_init) (N := 2) (pc := 82) (c := 15) (z := 698) dX8_init_82 n_X8_40 (fun q8 hq8 => ?_)
  refine ev_dup (pc := 85) dX8_init_85 rfl ?_
  refine ev_callIN (pc := 86) (As := []) (c1 := 4) (z1 := 148) dX8_init_86 cin_X8_42 rfl rfl ⟨by show 19 + 1 ≤ w; omega, show ev_Ca _ _ (w - 20) _ _ _ _ _ _ from k_finit (by omega) (by omega) ev_eqq⟩ rfl rfl (fun r h8 hp => ?_)
  obtain ⟨rfl, l8, hF8, hw8, hx8⟩ := hp
  obtain ⟨b8, y8⟩ := b_step (fs2 := [.ref q1, .ref q2, .ref q3, .ref q4, .ref q5, .ref q6, .ref q7, .ref q8, .null, .null, .null, .int 0, .int 0, .int 0]) B7 hq8 hx8
  have N_8 := nw_add (fs2 := [.ref q1, .ref q2, .ref q3, .ref q4, .ref q5, .ref q6, .ref q7, .ref q8, .null, .null, .null, .int 0, .int 0, .int 0]) N_7 T_7 B7 hq8 hw8 hx8
  have T_8 := T_7.tr y8
  have B8 : ev_up h8 B (.inr (6, [.ref q1, .ref q2, .ref q3, .ref q4, .ref q5, .ref q6, .ref q7, .ref q8, .null, .null, .null, .int 0, .int 0, .int 0])) B = some (.inr (6, [.ref q1, .ref q2, .ref q3, .ref q4, .ref q5, .ref q6, .ref q7, .ref q8, .null, .null, .null, .int 0, .int 0, .int 0])) := ev_eqq
  have hF8' : ev_up h8 B (.inr (6, [.ref q1, .ref q2, .ref q3, .ref q4, .ref q5, .ref q6, .ref q7, .ref q8, .null, .null, .null, .int 0, .int 0, .int 0])) q8 = some (.inr (2, [.ref (l8 0).1, .ref (l8 1).1])) := ev_nee (ne_of hF8 b8 (fun q => by cases q)) hF8
  refine ev_putF (pc := 89) dX8_init_89 pF_X8_50 rfl b8 rfl rfl rfl ?_
  refine ev_th (h2 := ev_up h8 B (.inr (6, [.ref q1, .ref q2, .ref q3, .ref q4, .ref q5, .ref q6, .ref q7, .ref q8, .null, .null, .null, .int 0, .int 0, .int 0]))) rfl ?_
  clear hF8 b8 hx8 hw8
  generalize ev_up h8 B (.inr (6, [.ref q1, .ref q2, .ref q3, .ref q4, .ref q5, .ref q6, .ref q7, .ref q8, .null, .null, .null, .int 0, .int 0, .int 0])) = g8 at *
  refine ev_aload_n (pc := 92) dX8_init_92 rfl ?_
  refine ev_new (M := m_X8_init) (N := 2) (pc := 93) (c := 10) (z := 548) dX8_init_93 n_X8_40 (fun q9 hq9 => ?_)
  refine ev_dup (pc := 96) dX8_init_96 rfl ?_
  refine ev_callIN (pc := 97) (As := []) (c1 := 4) (z1 := 148) dX8_init_97 cin_X8_42 rfl rfl ⟨by show 19 + 1 ≤ w; omega, show ev_Ca _ _ (w - 20) _ _ _ _ _ _ from k_finit (by omega) (by omega) ev_eqq⟩ rfl rfl (fun r h9 hp => ?_)
  obtain ⟨rfl, l9, hF9, hw9, hx9⟩ := hp
  obtain ⟨b9, y9⟩ := b_step (fs2 := [.ref q1, .ref q2, .ref q3, .ref q4, .ref q5, .ref q6, .ref q7, .ref q8, .ref q9, .null, .null, .int 0, .int 0, .int 0]) B8 hq9 hx9
  have N_9 := nw_add (fs2 := [.ref q1, .ref q2, .ref q3, .ref q4, .ref q5, .ref q6, .ref q7, .ref q8, .ref q9, .null, .null, .int 0, .int 0, .int 0]) N_8 T_8 B8 hq9 hw9 hx9
  have T_9 := T_8.tr y9
  have B9 : ev_up h9 B (.inr (6, [.ref q1, .ref q2, .ref q3, .ref q4, .ref q5, .ref q6, .ref q7, .ref q8, .ref q9, .null, .null, .int 0, .int 0, .int 0])) B = some (.inr (6, [.ref q1, .ref q2, .ref q3, .ref q4, .ref q5, .ref q6, .ref q7, .ref q8, .ref q9, .null, .null, .int 0, .int 0, .int 0])) := ev_eqq
  have hF9' : ev_up h9 B (.inr (6, [.ref q1, .ref q2, .ref q3, .ref q4, .ref q5, .ref q6, .ref q7, .ref q8, .ref q9, .null, .null, .int 0, .int 0, .int 0])) q9 = some (.inr (2, [.ref (l9 0).1, .ref (l9 1).1])) := ev_nee (ne_of hF9 b9 (fun q => by cases q)) hF9
  refine ev_putF (pc := 100) dX8_init_100 pF_X8_53 rfl b9 rfl rfl rfl ?_
  refine ev_th (h2 := ev_up h9 B (.inr (6, [.ref q1, .ref q2, .ref q3, .ref q4, .ref q5, .ref q6, .ref q7, .ref q8, .ref q9, .null, .null, .int 0, .int 0, .int 0]))) rfl ?_
  clear hF9 b9 hx9 hw9
  generalize ev_up h9 B (.inr (6, [.ref q1, .ref q2, .ref q3, .ref q4, .ref q5, .ref q6, .ref q7, .ref q8, .ref q9, .null, .null, .int 0, .int 0, .int 0])) = g9 at *
  refine ev_aload_n (pc := 103) dX8_init_103 rfl ?_
  refine ev_new (M := m_X8_init) (N := 2) (pc := 104) (c := 5) (z := 398) dX8_init_104 n_X8_40 (fun q10 hq10 => ?_)
  refine ev_dup (pc := 107) dX8_init_107 rfl ?_
  refine ev_callIN (pc := 108) (As := []) (c1 := 4) (z1 := 148) dX8_init_108 cin_X8_42 rfl rfl ⟨by show 19 + 1 ≤ w; omega, show ev_Ca _ _ (w - 20) _ _ _ _ _ _ from k_finit (by omega) (by omega) ev_eqq⟩ rfl rfl (fun r h10 hp => ?_)
  obtain ⟨rfl, l10, hF10, hw10, hx10⟩ := hp
  obtain ⟨b10, y10⟩ := b_step (fs2 := [.ref q1, .ref q2, .ref q3, .ref q4, .ref q5, .ref q6, .ref q7, .ref q8, .ref q9, .ref q10, .null, .int 0, .int 0, .int 0]) B9 hq10 hx10
  have N_10 := nw_add (fs2 := [.ref q1, .ref q2, .ref q3, .ref q4, .ref q5, .ref q6, .ref q7, .ref q8, .ref q9, .ref q10, .null, .int 0, .int 0, .int 0]) N_9 T_9 B9 hq10 hw10 hx10
  have T_10 := T_9.tr y10
  have B10 : ev_up h10 B (.inr (6, [.ref q1, .ref q2, .ref q3, .ref q4, .ref q5, .ref q6, .ref q7, .ref q8, .ref q9, .ref q10, .null, .int 0, .int 0, .int 0])) B = some (.inr (6, [.ref q1, .ref q2, .ref q3, .ref q4, .ref q5, .ref q6, .ref q7, .ref q8, .ref q9, .ref q10, .null, .int 0, .int 0, .int 0])) := ev_eqq
  have hF10' : ev_up h10 B (.inr (6, [.ref q1, .ref q2, .ref q3, .ref q4, .ref q5, .ref q6, .ref q7, .ref q8, .ref q9, .ref q10, .null, .int 0, .int 0, .int 0])) q10 = some (.inr (2, [.ref (l10 0).1, .ref (l10 1).1])) := ev_nee (ne_of hF10 b10 (fun q => by cases q)) hF10
  refine ev_putF (pc := 111) dX8_init_111 pF_X8_56 rfl b10 rfl rfl rfl ?_
  refine ev_th (h2 := ev_up h10 B (.inr (6, [.ref q1, .ref q2, .ref q3, .ref q4, .ref q5, .ref q6, .ref q7, .ref q8, .ref q9, .ref q10, .null, .int 0, .int 0, .int 0]))) rfl ?_
  clear hF10 b10 hx10 hw10
  generalize ev_up h10 B (.inr (6, [.ref q1, .ref q2, .ref q3, .ref q4, .ref q5, .ref q6, .ref q7, .ref q8, .ref q9, .ref q10, .null, .int 0, .int 0, .int 0])) = g10 at *
  refine ev_aload_n (pc := 114) dX8_init_114 rfl ?_
  refine ev_sipush (pc := 115) (v := nI 250) dX8_init_115 (by decide) ?_
  refine ev_newl (M := m_X8_init) (pc := 118) (c := 0) (z := 0) (N := 250) dX8_init_118 arL (by decide) (by decide) (by decide) (fun v hv => ?_)
  have vB : B ≠ v := fun e => by rw [← e, B10] at hv; cases hv
  refine ev_putF (pc := 120) dX8_init_120 pF_X8_59 rfl (ev_nee vB B10) rfl rfl rfl ?_
  refine ev_th (h2 := ev_up (ev_up g10 v (.inl (.long, 250, .inr (.inl (fun _ => 0))))) B (.inr (6, [.ref q1, .ref q2, .ref q3, .ref q4, .ref q5, .ref q6, .ref q7, .ref q8, .ref q9, .ref q10, .ref v, .int 0, .int 0, .int 0]))) rfl ?_
  have V1 : ∀ a x, g10 a = some x → a ≠ v := fun a x ha e => by rw [e, hv] at ha; cases ha
  have Y0 : XT g10 (ev_up (ev_up g10 v (.inl (.long, 250, .inr (.inl (fun _ => 0))))) B (.inr (6, [.ref q1, .ref q2, .ref q3, .ref q4, .ref q5, .ref q6, .ref q7, .ref q8, .ref q9, .ref q10, .ref v, .int 0, .int 0, .int 0]))) B := fun a x ha hn => ev_nee hn (ev_nee (V1 a x ha) ha)
  have L0 : ev_up (ev_up g10 v (.inl (.long, 250, .inr (.inl (fun _ => 0))))) B (.inr (6, [.ref q1, .ref q2, .ref q3, .ref q4, .ref q5, .ref q6, .ref q7, .ref q8, .ref q9, .ref q10, .ref v, .int 0, .int 0, .int 0])) v = some (.inl (.long, 250, .inr (.inl (fun _ => 0)))) := ev_nee (Ne.symm vB) ev_eqq
  have C0 : ev_up (ev_up g10 v (.inl (.long, 250, .inr (.inl (fun _ => 0))))) B (.inr (6, [.ref q1, .ref q2, .ref q3, .ref q4, .ref q5, .ref q6, .ref q7, .ref q8, .ref q9, .ref q10, .ref v, .int 0, .int 0, .int 0])) B = some (.inr (6, [.ref q1, .ref q2, .ref q3, .ref q4, .ref q5, .ref q6, .ref q7, .ref q8, .ref q9, .ref q10, .ref v, .int 0, .int 0, .int 0])) := ev_eqq
  generalize ev_up (ev_up g10 v (.inl (.long, 250, .inr (.inl (fun _ => 0))))) B (.inr (6, [.ref q1, .ref q2, .ref q3, .ref q4, .ref q5, .ref q6, .ref q7, .ref q8, .ref q9, .ref q10, .ref v, .int 0, .int 0, .int 0])) = e0 at *
  refine ev_aload_n (pc := 123) dX8_init_123 rfl ?_
  refine ev_iconst (pc := 124) (v := nI 0) dX8_init_124 (by decide) ?_
  refine ev_putf (pc := 125) dX8_init_125 p_X8_63 C0 rfl rfl rfl ?_
  refine ev_aload_n (pc := 128) dX8_init_128 rfl ?_
  refine ev_iconst (pc := 129) (v := nI 0) dX8_init_129 (by decide) ?_
  refine ev_putf (pc := 130) dX8_init_130 p_X8_67 ev_eqq rfl rfl rfl ?_
  refine ev_aload_n (pc := 133) dX8_init_133 rfl ?_
  refine ev_iconst (pc := 134) (v := nI 1) dX8_init_134 (by decide) ?_
  refine ev_putf (pc := 135) dX8_init_135 p_X8_71 ev_eqq rfl rfl rfl ?_
  refine ev_th (h2 := ev_up (ev_up (ev_up e0 B (.inr (6, [.ref q1, .ref q2, .ref q3, .ref q4, .ref q5, .ref q6, .ref q7, .ref q8, .ref q9, .ref q10, .ref v, .int (nI 0), .int 0, .int 0]))) B (.inr (6, [.ref q1, .ref q2, .ref q3, .ref q4, .ref q5, .ref q6, .ref q7, .ref q8, .ref q9, .ref q10, .ref v, .int (nI 0), .int (nI 0), .int 0]))) B (.inr (6, [.ref q1, .ref q2, .ref q3, .ref q4, .ref q5, .ref q6, .ref q7, .ref q8, .ref q9, .ref q10, .ref v, .int (nI 0), .int (nI 0), .int (nI 1)]))) rfl ?_
  have Y1 : XT e0 (ev_up (ev_up (ev_up e0 B (.inr (6, [.ref q1, .ref q2, .ref q3, .ref q4, .ref q5, .ref q6, .ref q7, .ref q8, .ref q9, .ref q10, .ref v, .int (nI 0), .int 0, .int 0]))) B (.inr (6, [.ref q1, .ref q2, .ref q3, .ref q4, .ref q5, .ref q6, .ref q7, .ref q8, .ref q9, .ref q10, .ref v, .int (nI 0), .int (nI 0), .int 0]))) B (.inr (6, [.ref q1, .ref q2, .ref q3, .ref q4, .ref q5, .ref q6, .ref q7, .ref q8, .ref q9, .ref q10, .ref v, .int (nI 0), .int (nI 0), .int (nI 1)]))) B := fun a x ha hn => ev_nee hn (ev_nee hn (ev_nee hn ha))
  have C1 : ev_up (ev_up (ev_up e0 B (.inr (6, [.ref q1, .ref q2, .ref q3, .ref q4, .ref q5, .ref q6, .ref q7, .ref q8, .ref q9, .ref q10, .ref v, .int (nI 0), .int 0, .int 0]))) B (.inr (6, [.ref q1, .ref q2, .ref q3, .ref q4, .ref q5, .ref q6, .ref q7, .ref q8, .ref q9, .ref q10, .ref v, .int (nI 0), .int (nI 0), .int 0]))) B (.inr (6, [.ref q1, .ref q2, .ref q3, .ref q4, .ref q5, .ref q6, .ref q7, .ref q8, .ref q9, .ref q10, .ref v, .int (nI 0), .int (nI 0), .int (nI 1)])) B = some (.inr (6, [.ref q1, .ref q2, .ref q3, .ref q4, .ref q5, .ref q6, .ref q7, .ref q8, .ref q9, .ref q10, .ref v, .int (nI 0), .int (nI 0), .int (nI 1)])) := ev_eqq
  generalize ev_up (ev_up (ev_up e0 B (.inr (6, [.ref q1, .ref q2, .ref q3, .ref q4, .ref q5, .ref q6, .ref q7, .ref q8, .ref q9, .ref q10, .ref v, .int (nI 0), .int 0, .int 0]))) B (.inr (6, [.ref q1, .ref q2, .ref q3, .ref q4, .ref q5, .ref q6, .ref q7, .ref q8, .ref q9, .ref q10, .ref v, .int (nI 0), .int (nI 0), .int 0]))) B (.inr (6, [.ref q1, .ref q2, .ref q3, .ref q4, .ref q5, .ref q6, .ref q7, .ref q8, .ref q9, .ref q10, .ref v, .int (nI 0), .int (nI 0), .int (nI 1)])) = hE at *
  have c10 := Y0.tr Y1
  have c9 := y10.tr c10
  have c8 := y9.tr c9
  have c7 := y8.tr c8
  have c6 := y7.tr c7
  have c5 := y6.tr c6
  have c4 := y5.tr c5
  have c3 := y4.tr c4
  have c2 := y3.tr c3
  have c1 := y2.tr c2
  have N_E := nw_xt B10 c10 N_10
  have pin : ∀ i, i < 20 → (if i < 9 then i else if i < 19 then i + 1 else 9) < 20 := by
    intro i hi
    repeat' split
    all_goals omega
  have pij : ∀ i j, i < 20 → j < 20 → i ≠ j → (if i < 9 then i else if i < 19 then i + 1 else 9) ≠ (if j < 9 then j else if j < 19 then j + 1 else 9) := by
    intro i j hi hj hij
    repeat' split
    all_goals omega
  refine ev_vret (pc := 138) dX8_init_138 rfl ⟨rfl, (fun i => [B, q1, q2, q3, q4, q5, q6, q7, q8, q9, q10, v].getD i 0), lpi (ladd (ladd (ladd (ladd (ladd (ladd (ladd (fun _ => (0, 0)) 0 l4) (0 + 9) l5) (0 + 9 + 1) l6) (0 + 9 + 1 + 2) l7) (0 + 9 + 1 + 2 + 2) l8) (0 + 9 + 1 + 2 + 2 + 2) l9) (0 + 9 + 1 + 2 + 2 + 2 + 2) l10), sa1, sa2, ga, tc, P1, fu1, fd1, (fun _ => 0), (fun _ _ => 0), (fun _ => 0), (fun _ => 0), rfl, ⟨⟨fun i j hi hj hij => N_E.2 _ _ (pin i hi) (pin j hj) (pij i j hi hj hij), fun i hi => (N_E.1 _ (pin i hi)).1, ?_⟩, ⟨C1, fun i hi => ?_⟩, sh_xt B1 c1 hS1', ⟨_, _, _, _, sh_xt B2 c2 hS2'⟩, ag_xt B3 c3 hA3', Y1 _ _ L0 (Ne.symm vB), tx_xt B5 c5 hT5'⟩, ⟨sx1, sx2, hSD1, hSD2, hAD⟩, hP1, hf1, rfl, rfl, T_10.tr c10⟩
  · exact c4 _ _ hDk' (ne_of hDk' B4 (fun q => by cases q))
  · match i, hi with
    | 0, _ => exact c6 _ _ hF6' (ne_of hF6' B6 (fun q => by cases q))
    | 1, _ => exact c7 _ _ hF7' (ne_of hF7' B7 (fun q => by cases q))
    | 2, _ => exact c8 _ _ hF8' (ne_of hF8' B8 (fun q => by cases q))
    | 3, _ => exact c9 _ _ hF9' (ne_of hF9' B9 (fun q => by cases q))
    | 4, _ => exact c10 _ _ hF10' (ne_of hF10' B10 (fun q => by cases q))
end CON4
